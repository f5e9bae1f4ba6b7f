/-- what holds between two calls -/
def J (h : Hp) : Prop := Inv h ∧ JT h ∧ JA h ∧ JB h ∧ JS h
theorem end_S1 {k i : Nat} (hk : jtC k i) (hn : k ≠ 89) : inS S_Rod_end k i = false := by
  unfold inS S_Rod_end
  rw [List.any_eq_false]
  intro q hq e
  rw [List.mem_singleton] at hq
  subst hq
  rw [Bool.and_eq_true] at e
  exact hn (eq_of_beq e.1).symm
theorem end_S2 {k i : Nat} (hk : jtC k i) (hn : ¬ (k = 116 ∧ i = 15)) : inS S_Mod_end k i = false := by
  unfold inS S_Mod_end
  rw [List.any_eq_false]
  intro q hq e
  rw [List.mem_singleton] at hq
  subst hq
  rw [Bool.and_eq_true] at e
  exact hn ⟨(eq_of_beq e.1).symm, (eq_of_beq e.2).symm⟩
theorem cb_Rod_feed : CB y_Rod_feed b_Rod_feed 2 (some .int) 1 := ⟨vv_Gin (List.mem_append_right _ (List.mem_append_right _ (List.mem_append_left _ (List.mem_of_getElem? (i := 150) rfl)))) rfl, by decide +kernel, vv_Gin (List.mem_append_right _ (List.mem_append_left _ (List.mem_of_getElem? (i := 1) rfl))) rfl⟩
theorem im_Rod_feed : Cond.instanceMethod y_Rod_feed ∈ vv_G := vv_Gin (List.mem_append_right _ (List.mem_append_right _ (List.mem_append_left _ (List.mem_of_getElem? (i := 148) rfl)))) rfl
theorem se_Rod_feed : Cond.selects y_Rod_feed.cls y_Rod_feed y_Rod_feed ∈ vv_G := vv_Gin (List.mem_append_right _ (List.mem_append_right _ (List.mem_append_left _ (List.mem_of_getElem? (i := 149) rfl)))) rfl
theorem cv_law_13 : CV R_law 13 y_Rod_feed b_Rod_feed 2 (some .int) 1 := ⟨cb_Rod_feed, im_Rod_feed, se_Rod_feed, vv_Gin (List.mem_append_right _ (List.mem_append_right _ (List.mem_append_left _ (List.mem_of_getElem? (i := 147) rfl)))) rfl⟩
theorem cb_Mod_feed : CB y_Mod_feed b_Mod_feed 2 (some .int) 1 := ⟨vv_Gin (List.mem_append_right _ (List.mem_append_right _ (List.mem_append_right _ (List.mem_append_right _ (List.mem_append_right _ (List.mem_append_left _ (List.mem_of_getElem? (i := 98) rfl))))))) rfl, by decide +kernel, vv_Gin (List.mem_append_right _ (List.mem_append_left _ (List.mem_of_getElem? (i := 13) rfl))) rfl⟩
theorem im_Mod_feed : Cond.instanceMethod y_Mod_feed ∈ vv_G := vv_Gin (List.mem_append_right _ (List.mem_append_right _ (List.mem_append_right _ (List.mem_append_right _ (List.mem_append_right _ (List.mem_append_left _ (List.mem_of_getElem? (i := 96) rfl))))))) rfl
theorem se_Mod_feed : Cond.selects y_Mod_feed.cls y_Mod_feed y_Mod_feed ∈ vv_G := vv_Gin (List.mem_append_right _ (List.mem_append_right _ (List.mem_append_right _ (List.mem_append_right _ (List.mem_append_right _ (List.mem_append_left _ (List.mem_of_getElem? (i := 97) rfl))))))) rfl
theorem cv_law_17 : CV R_law 17 y_Mod_feed b_Mod_feed 2 (some .int) 1 := ⟨cb_Mod_feed, im_Mod_feed, se_Mod_feed, vv_Gin (List.mem_append_right _ (List.mem_append_right _ (List.mem_append_right _ (List.mem_append_right _ (List.mem_append_right _ (List.mem_append_left _ (List.mem_of_getElem? (i := 95) rfl))))))) rfl⟩
theorem cb_Rod_end : CB y_Rod_end b_Rod_end 3 (some .int) 1 := ⟨vv_Gin (List.mem_append_right _ (List.mem_append_right _ (List.mem_append_left _ (List.mem_of_getElem? (i := 154) rfl)))) rfl, by decide +kernel, vv_Gin (List.mem_append_right _ (List.mem_append_left _ (List.mem_of_getElem? (i := 1) rfl))) rfl⟩
theorem im_Rod_end : Cond.instanceMethod y_Rod_end ∈ vv_G := vv_Gin (List.mem_append_right _ (List.mem_append_right _ (List.mem_append_left _ (List.mem_of_getElem? (i := 152) rfl)))) rfl
theorem se_Rod_end : Cond.selects y_Rod_end.cls y_Rod_end y_Rod_end ∈ vv_G := vv_Gin (List.mem_append_right _ (List.mem_append_right _ (List.mem_append_left _ (List.mem_of_getElem? (i := 153) rfl)))) rfl
theorem cv_law_18 : CV R_law 18 y_Rod_end b_Rod_end 3 (some .int) 1 := ⟨cb_Rod_end, im_Rod_end, se_Rod_end, vv_Gin (List.mem_append_right _ (List.mem_append_right _ (List.mem_append_left _ (List.mem_of_getElem? (i := 151) rfl)))) rfl⟩
theorem cb_Mod_end : CB y_Mod_end b_Mod_end 3 (some .int) 1 := ⟨vv_Gin (List.mem_append_right _ (List.mem_append_right _ (List.mem_append_right _ (List.mem_append_right _ (List.mem_append_right _ (List.mem_append_left _ (List.mem_of_getElem? (i := 106) rfl))))))) rfl, by decide +kernel, vv_Gin (List.mem_append_right _ (List.mem_append_left _ (List.mem_of_getElem? (i := 13) rfl))) rfl⟩
theorem im_Mod_end : Cond.instanceMethod y_Mod_end ∈ vv_G := vv_Gin (List.mem_append_right _ (List.mem_append_right _ (List.mem_append_right _ (List.mem_append_right _ (List.mem_append_right _ (List.mem_append_left _ (List.mem_of_getElem? (i := 104) rfl))))))) rfl
theorem se_Mod_end : Cond.selects y_Mod_end.cls y_Mod_end y_Mod_end ∈ vv_G := vv_Gin (List.mem_append_right _ (List.mem_append_right _ (List.mem_append_right _ (List.mem_append_right _ (List.mem_append_right _ (List.mem_append_left _ (List.mem_of_getElem? (i := 105) rfl))))))) rfl
theorem cv_law_21 : CV R_law 21 y_Mod_end b_Mod_end 3 (some .int) 1 := ⟨cb_Mod_end, im_Mod_end, se_Mod_end, vv_Gin (List.mem_append_right _ (List.mem_append_right _ (List.mem_append_right _ (List.mem_append_right _ (List.mem_append_right _ (List.mem_append_left _ (List.mem_of_getElem? (i := 103) rfl))))))) rfl⟩
theorem cb_Rod_text : CB y_Rod_text b_Rod_text 3 (some .int) 0 := ⟨vv_Gin (List.mem_append_right _ (List.mem_append_right _ (List.mem_append_left _ (List.mem_of_getElem? (i := 158) rfl)))) rfl, by decide +kernel, vv_Gin (List.mem_append_right _ (List.mem_append_left _ (List.mem_of_getElem? (i := 1) rfl))) rfl⟩
theorem im_Rod_text : Cond.instanceMethod y_Rod_text ∈ vv_G := vv_Gin (List.mem_append_right _ (List.mem_append_right _ (List.mem_append_left _ (List.mem_of_getElem? (i := 156) rfl)))) rfl
theorem se_Rod_text : Cond.selects y_Rod_text.cls y_Rod_text y_Rod_text ∈ vv_G := vv_Gin (List.mem_append_right _ (List.mem_append_right _ (List.mem_append_left _ (List.mem_of_getElem? (i := 157) rfl)))) rfl
theorem cv_law_22 : CV R_law 22 y_Rod_text b_Rod_text 3 (some .int) 0 := ⟨cb_Rod_text, im_Rod_text, se_Rod_text, vv_Gin (List.mem_append_right _ (List.mem_append_right _ (List.mem_append_left _ (List.mem_of_getElem? (i := 155) rfl)))) rfl⟩
theorem cb_Mod_text : CB y_Mod_text b_Mod_text 2 (some .int) 0 := ⟨vv_Gin (List.mem_append_right _ (List.mem_append_right _ (List.mem_append_right _ (List.mem_append_right _ (List.mem_append_right _ (List.mem_append_left _ (List.mem_of_getElem? (i := 110) rfl))))))) rfl, by decide +kernel, vv_Gin (List.mem_append_right _ (List.mem_append_left _ (List.mem_of_getElem? (i := 13) rfl))) rfl⟩
theorem im_Mod_text : Cond.instanceMethod y_Mod_text ∈ vv_G := vv_Gin (List.mem_append_right _ (List.mem_append_right _ (List.mem_append_right _ (List.mem_append_right _ (List.mem_append_right _ (List.mem_append_left _ (List.mem_of_getElem? (i := 108) rfl))))))) rfl
theorem se_Mod_text : Cond.selects y_Mod_text.cls y_Mod_text y_Mod_text ∈ vv_G := vv_Gin (List.mem_append_right _ (List.mem_append_right _ (List.mem_append_right _ (List.mem_append_right _ (List.mem_append_right _ (List.mem_append_left _ (List.mem_of_getElem? (i := 109) rfl))))))) rfl
theorem cv_law_26 : CV R_law 26 y_Mod_text b_Mod_text 2 (some .int) 0 := ⟨cb_Mod_text, im_Mod_text, se_Mod_text, vv_Gin (List.mem_append_right _ (List.mem_append_right _ (List.mem_append_right _ (List.mem_append_right _ (List.mem_append_right _ (List.mem_append_left _ (List.mem_of_getElem? (i := 107) rfl))))))) rfl⟩
theorem cb_Rod_fault : CB y_Rod_fault b_Rod_fault 1 (some .int) 0 := ⟨vv_Gin (List.mem_append_right _ (List.mem_append_right _ (List.mem_append_right _ (List.mem_append_left _ (List.mem_of_getElem? (i := 103) rfl))))) rfl, by decide +kernel, vv_Gin (List.mem_append_right _ (List.mem_append_left _ (List.mem_of_getElem? (i := 1) rfl))) rfl⟩
theorem im_Rod_fault : Cond.instanceMethod y_Rod_fault ∈ vv_G := vv_Gin (List.mem_append_right _ (List.mem_append_right _ (List.mem_append_right _ (List.mem_append_left _ (List.mem_of_getElem? (i := 101) rfl))))) rfl
theorem se_Rod_fault : Cond.selects y_Rod_fault.cls y_Rod_fault y_Rod_fault ∈ vv_G := vv_Gin (List.mem_append_right _ (List.mem_append_right _ (List.mem_append_right _ (List.mem_append_left _ (List.mem_of_getElem? (i := 102) rfl))))) rfl
theorem cv_law_27 : CV R_law 27 y_Rod_fault b_Rod_fault 1 (some .int) 0 := ⟨cb_Rod_fault, im_Rod_fault, se_Rod_fault, vv_Gin (List.mem_append_right _ (List.mem_append_right _ (List.mem_append_right _ (List.mem_append_left _ (List.mem_of_getElem? (i := 100) rfl))))) rfl⟩
theorem cb_Mod_fault : CB y_Mod_fault b_Mod_fault 1 (some .int) 0 := ⟨vv_Gin (List.mem_append_right _ (List.mem_append_right _ (List.mem_append_right _ (List.mem_append_right _ (List.mem_append_right _ (List.mem_append_left _ (List.mem_of_getElem? (i := 182) rfl))))))) rfl, by decide +kernel, vv_Gin (List.mem_append_right _ (List.mem_append_left _ (List.mem_of_getElem? (i := 13) rfl))) rfl⟩
theorem im_Mod_fault : Cond.instanceMethod y_Mod_fault ∈ vv_G := vv_Gin (List.mem_append_right _ (List.mem_append_right _ (List.mem_append_right _ (List.mem_append_right _ (List.mem_append_right _ (List.mem_append_left _ (List.mem_of_getElem? (i := 180) rfl))))))) rfl
theorem se_Mod_fault : Cond.selects y_Mod_fault.cls y_Mod_fault y_Mod_fault ∈ vv_G := vv_Gin (List.mem_append_right _ (List.mem_append_right _ (List.mem_append_right _ (List.mem_append_right _ (List.mem_append_right _ (List.mem_append_left _ (List.mem_of_getElem? (i := 181) rfl))))))) rfl
theorem cv_law_30 : CV R_law 30 y_Mod_fault b_Mod_fault 1 (some .int) 0 := ⟨cb_Mod_fault, im_Mod_fault, se_Mod_fault, vv_Gin (List.mem_append_right _ (List.mem_append_right _ (List.mem_append_right _ (List.mem_append_right _ (List.mem_append_right _ (List.mem_append_left _ (List.mem_of_getElem? (i := 179) rfl))))))) rfl⟩
theorem cb_Rod_rule : CB y_Rod_rule b_Rod_rule 2 (some .int) 1 := ⟨vv_Gin (List.mem_append_right _ (List.mem_append_right _ (List.mem_append_right _ (List.mem_append_left _ (List.mem_of_getElem? (i := 107) rfl))))) rfl, by decide +kernel, vv_Gin (List.mem_append_right _ (List.mem_append_left _ (List.mem_of_getElem? (i := 1) rfl))) rfl⟩
theorem im_Rod_rule : Cond.instanceMethod y_Rod_rule ∈ vv_G := vv_Gin (List.mem_append_right _ (List.mem_append_right _ (List.mem_append_right _ (List.mem_append_left _ (List.mem_of_getElem? (i := 105) rfl))))) rfl
theorem se_Rod_rule : Cond.selects y_Rod_rule.cls y_Rod_rule y_Rod_rule ∈ vv_G := vv_Gin (List.mem_append_right _ (List.mem_append_right _ (List.mem_append_right _ (List.mem_append_left _ (List.mem_of_getElem? (i := 106) rfl))))) rfl
theorem cv_law_31 : CV R_law 31 y_Rod_rule b_Rod_rule 2 (some .int) 1 := ⟨cb_Rod_rule, im_Rod_rule, se_Rod_rule, vv_Gin (List.mem_append_right _ (List.mem_append_right _ (List.mem_append_right _ (List.mem_append_left _ (List.mem_of_getElem? (i := 104) rfl))))) rfl⟩
theorem cb_Mod_rule : CB y_Mod_rule b_Mod_rule 2 (some .int) 1 := ⟨vv_Gin (List.mem_append_right _ (List.mem_append_right _ (List.mem_append_right _ (List.mem_append_right _ (List.mem_append_right _ (List.mem_append_left _ (List.mem_of_getElem? (i := 186) rfl))))))) rfl, by decide +kernel, vv_Gin (List.mem_append_right _ (List.mem_append_left _ (List.mem_of_getElem? (i := 13) rfl))) rfl⟩
theorem im_Mod_rule : Cond.instanceMethod y_Mod_rule ∈ vv_G := vv_Gin (List.mem_append_right _ (List.mem_append_right _ (List.mem_append_right _ (List.mem_append_right _ (List.mem_append_right _ (List.mem_append_left _ (List.mem_of_getElem? (i := 184) rfl))))))) rfl
theorem se_Mod_rule : Cond.selects y_Mod_rule.cls y_Mod_rule y_Mod_rule ∈ vv_G := vv_Gin (List.mem_append_right _ (List.mem_append_right _ (List.mem_append_right _ (List.mem_append_right _ (List.mem_append_right _ (List.mem_append_left _ (List.mem_of_getElem? (i := 185) rfl))))))) rfl
theorem cv_law_34 : CV R_law 34 y_Mod_rule b_Mod_rule 2 (some .int) 1 := ⟨cb_Mod_rule, im_Mod_rule, se_Mod_rule, vv_Gin (List.mem_append_right _ (List.mem_append_right _ (List.mem_append_right _ (List.mem_append_right _ (List.mem_append_right _ (List.mem_append_left _ (List.mem_of_getElem? (i := 183) rfl))))))) rfl⟩
theorem cb_Rod_cell : CB y_Rod_cell b_Rod_cell 4 (some .int) 2 := ⟨vv_Gin (List.mem_append_right _ (List.mem_append_right _ (List.mem_append_right _ (List.mem_append_left _ (List.mem_of_getElem? (i := 111) rfl))))) rfl, by decide +kernel, vv_Gin (List.mem_append_right _ (List.mem_append_left _ (List.mem_of_getElem? (i := 1) rfl))) rfl⟩
theorem im_Rod_cell : Cond.instanceMethod y_Rod_cell ∈ vv_G := vv_Gin (List.mem_append_right _ (List.mem_append_right _ (List.mem_append_right _ (List.mem_append_left _ (List.mem_of_getElem? (i := 109) rfl))))) rfl
theorem se_Rod_cell : Cond.selects y_Rod_cell.cls y_Rod_cell y_Rod_cell ∈ vv_G := vv_Gin (List.mem_append_right _ (List.mem_append_right _ (List.mem_append_right _ (List.mem_append_left _ (List.mem_of_getElem? (i := 110) rfl))))) rfl
theorem cv_law_35 : CV R_law 35 y_Rod_cell b_Rod_cell 4 (some .int) 2 := ⟨cb_Rod_cell, im_Rod_cell, se_Rod_cell, vv_Gin (List.mem_append_right _ (List.mem_append_right _ (List.mem_append_right _ (List.mem_append_left _ (List.mem_of_getElem? (i := 108) rfl))))) rfl⟩
theorem cb_Mod_cell : CB y_Mod_cell b_Mod_cell 3 (some .int) 2 := ⟨vv_Gin (List.mem_append_right _ (List.mem_append_right _ (List.mem_append_right _ (List.mem_append_right _ (List.mem_append_right _ (List.mem_append_left _ (List.mem_of_getElem? (i := 190) rfl))))))) rfl, by decide +kernel, vv_Gin (List.mem_append_right _ (List.mem_append_left _ (List.mem_of_getElem? (i := 13) rfl))) rfl⟩
theorem im_Mod_cell : Cond.instanceMethod y_Mod_cell ∈ vv_G := vv_Gin (List.mem_append_right _ (List.mem_append_right _ (List.mem_append_right _ (List.mem_append_right _ (List.mem_append_right _ (List.mem_append_left _ (List.mem_of_getElem? (i := 188) rfl))))))) rfl
theorem se_Mod_cell : Cond.selects y_Mod_cell.cls y_Mod_cell y_Mod_cell ∈ vv_G := vv_Gin (List.mem_append_right _ (List.mem_append_right _ (List.mem_append_right _ (List.mem_append_right _ (List.mem_append_right _ (List.mem_append_left _ (List.mem_of_getElem? (i := 189) rfl))))))) rfl
theorem cv_law_39 : CV R_law 39 y_Mod_cell b_Mod_cell 3 (some .int) 2 := ⟨cb_Mod_cell, im_Mod_cell, se_Mod_cell, vv_Gin (List.mem_append_right _ (List.mem_append_right _ (List.mem_append_right _ (List.mem_append_right _ (List.mem_append_right _ (List.mem_append_left _ (List.mem_of_getElem? (i := 187) rfl))))))) rfl⟩
theorem cb_Rod_purse : CB y_Rod_purse b_Rod_purse 2 (some .int) 1 := ⟨vv_Gin (List.mem_append_right _ (List.mem_append_right _ (List.mem_append_right _ (List.mem_append_left _ (List.mem_of_getElem? (i := 126) rfl))))) rfl, by decide +kernel, vv_Gin (List.mem_append_right _ (List.mem_append_left _ (List.mem_of_getElem? (i := 1) rfl))) rfl⟩
theorem im_Rod_purse : Cond.instanceMethod y_Rod_purse ∈ vv_G := vv_Gin (List.mem_append_right _ (List.mem_append_right _ (List.mem_append_right _ (List.mem_append_left _ (List.mem_of_getElem? (i := 124) rfl))))) rfl
theorem se_Rod_purse : Cond.selects y_Rod_purse.cls y_Rod_purse y_Rod_purse ∈ vv_G := vv_Gin (List.mem_append_right _ (List.mem_append_right _ (List.mem_append_right _ (List.mem_append_left _ (List.mem_of_getElem? (i := 125) rfl))))) rfl
theorem cv_law_40 : CV R_law 40 y_Rod_purse b_Rod_purse 2 (some .int) 1 := ⟨cb_Rod_purse, im_Rod_purse, se_Rod_purse, vv_Gin (List.mem_append_right _ (List.mem_append_right _ (List.mem_append_right _ (List.mem_append_left _ (List.mem_of_getElem? (i := 123) rfl))))) rfl⟩
theorem cb_Mod_purse : CB y_Mod_purse b_Mod_purse 2 (some .int) 1 := ⟨vv_Gin (List.mem_append_right _ (List.mem_append_right _ (List.mem_append_right _ (List.mem_append_right _ (List.mem_append_right _ (List.mem_append_left _ (List.mem_of_getElem? (i := 213) rfl))))))) rfl, by decide +kernel, vv_Gin (List.mem_append_right _ (List.mem_append_left _ (List.mem_of_getElem? (i := 13) rfl))) rfl⟩
theorem im_Mod_purse : Cond.instanceMethod y_Mod_purse ∈ vv_G := vv_Gin (List.mem_append_right _ (List.mem_append_right _ (List.mem_append_right _ (List.mem_append_right _ (List.mem_append_right _ (List.mem_append_left _ (List.mem_of_getElem? (i := 211) rfl))))))) rfl
theorem se_Mod_purse : Cond.selects y_Mod_purse.cls y_Mod_purse y_Mod_purse ∈ vv_G := vv_Gin (List.mem_append_right _ (List.mem_append_right _ (List.mem_append_right _ (List.mem_append_right _ (List.mem_append_right _ (List.mem_append_left _ (List.mem_of_getElem? (i := 212) rfl))))))) rfl
theorem cv_law_43 : CV R_law 43 y_Mod_purse b_Mod_purse 2 (some .int) 1 := ⟨cb_Mod_purse, im_Mod_purse, se_Mod_purse, vv_Gin (List.mem_append_right _ (List.mem_append_right _ (List.mem_append_right _ (List.mem_append_right _ (List.mem_append_right _ (List.mem_append_left _ (List.mem_of_getElem? (i := 210) rfl))))))) rfl⟩
theorem cb_Rod_wet : CB y_Rod_wet b_Rod_wet 5 (some .int) 2 := ⟨vv_Gin (List.mem_append_right _ (List.mem_append_right _ (List.mem_append_right _ (List.mem_append_left _ (List.mem_of_getElem? (i := 133) rfl))))) rfl, by decide +kernel, vv_Gin (List.mem_append_right _ (List.mem_append_left _ (List.mem_of_getElem? (i := 1) rfl))) rfl⟩
theorem im_Rod_wet : Cond.instanceMethod y_Rod_wet ∈ vv_G := vv_Gin (List.mem_append_right _ (List.mem_append_right _ (List.mem_append_right _ (List.mem_append_left _ (List.mem_of_getElem? (i := 131) rfl))))) rfl
theorem se_Rod_wet : Cond.selects y_Rod_wet.cls y_Rod_wet y_Rod_wet ∈ vv_G := vv_Gin (List.mem_append_right _ (List.mem_append_right _ (List.mem_append_right _ (List.mem_append_left _ (List.mem_of_getElem? (i := 132) rfl))))) rfl
theorem cv_law_44 : CV R_law 44 y_Rod_wet b_Rod_wet 5 (some .int) 2 := ⟨cb_Rod_wet, im_Rod_wet, se_Rod_wet, vv_Gin (List.mem_append_right _ (List.mem_append_right _ (List.mem_append_right _ (List.mem_append_left _ (List.mem_of_getElem? (i := 130) rfl))))) rfl⟩
theorem cb_Mod_wet : CB y_Mod_wet b_Mod_wet 3 (some .int) 2 := ⟨vv_Gin (List.mem_append_right _ (List.mem_append_right _ (List.mem_append_right _ (List.mem_append_right _ (List.mem_append_right _ (List.mem_append_left _ (List.mem_of_getElem? (i := 221) rfl))))))) rfl, by decide +kernel, vv_Gin (List.mem_append_right _ (List.mem_append_left _ (List.mem_of_getElem? (i := 13) rfl))) rfl⟩
theorem im_Mod_wet : Cond.instanceMethod y_Mod_wet ∈ vv_G := vv_Gin (List.mem_append_right _ (List.mem_append_right _ (List.mem_append_right _ (List.mem_append_right _ (List.mem_append_right _ (List.mem_append_left _ (List.mem_of_getElem? (i := 219) rfl))))))) rfl
theorem se_Mod_wet : Cond.selects y_Mod_wet.cls y_Mod_wet y_Mod_wet ∈ vv_G := vv_Gin (List.mem_append_right _ (List.mem_append_right _ (List.mem_append_right _ (List.mem_append_right _ (List.mem_append_right _ (List.mem_append_left _ (List.mem_of_getElem? (i := 220) rfl))))))) rfl
theorem cv_law_47 : CV R_law 47 y_Mod_wet b_Mod_wet 3 (some .int) 2 := ⟨cb_Mod_wet, im_Mod_wet, se_Mod_wet, vv_Gin (List.mem_append_right _ (List.mem_append_right _ (List.mem_append_right _ (List.mem_append_right _ (List.mem_append_right _ (List.mem_append_left _ (List.mem_of_getElem? (i := 218) rfl))))))) rfl⟩
theorem cb_Rod_iron : CB y_Rod_iron b_Rod_iron 5 (some .int) 2 := ⟨vv_Gin (List.mem_append_right _ (List.mem_append_right _ (List.mem_append_right _ (List.mem_append_left _ (List.mem_of_getElem? (i := 137) rfl))))) rfl, by decide +kernel, vv_Gin (List.mem_append_right _ (List.mem_append_left _ (List.mem_of_getElem? (i := 1) rfl))) rfl⟩
theorem im_Rod_iron : Cond.instanceMethod y_Rod_iron ∈ vv_G := vv_Gin (List.mem_append_right _ (List.mem_append_right _ (List.mem_append_right _ (List.mem_append_left _ (List.mem_of_getElem? (i := 135) rfl))))) rfl
theorem se_Rod_iron : Cond.selects y_Rod_iron.cls y_Rod_iron y_Rod_iron ∈ vv_G := vv_Gin (List.mem_append_right _ (List.mem_append_right _ (List.mem_append_right _ (List.mem_append_left _ (List.mem_of_getElem? (i := 136) rfl))))) rfl
theorem cv_law_48 : CV R_law 48 y_Rod_iron b_Rod_iron 5 (some .int) 2 := ⟨cb_Rod_iron, im_Rod_iron, se_Rod_iron, vv_Gin (List.mem_append_right _ (List.mem_append_right _ (List.mem_append_right _ (List.mem_append_left _ (List.mem_of_getElem? (i := 134) rfl))))) rfl⟩
theorem cb_Mod_iron : CB y_Mod_iron b_Mod_iron 3 (some .int) 2 := ⟨vv_Gin (List.mem_append_right _ (List.mem_append_right _ (List.mem_append_right _ (List.mem_append_right _ (List.mem_append_right _ (List.mem_append_left _ (List.mem_of_getElem? (i := 230) rfl))))))) rfl, by decide +kernel, vv_Gin (List.mem_append_right _ (List.mem_append_left _ (List.mem_of_getElem? (i := 13) rfl))) rfl⟩
theorem im_Mod_iron : Cond.instanceMethod y_Mod_iron ∈ vv_G := vv_Gin (List.mem_append_right _ (List.mem_append_right _ (List.mem_append_right _ (List.mem_append_right _ (List.mem_append_right _ (List.mem_append_left _ (List.mem_of_getElem? (i := 228) rfl))))))) rfl
theorem se_Mod_iron : Cond.selects y_Mod_iron.cls y_Mod_iron y_Mod_iron ∈ vv_G := vv_Gin (List.mem_append_right _ (List.mem_append_right _ (List.mem_append_right _ (List.mem_append_right _ (List.mem_append_right _ (List.mem_append_left _ (List.mem_of_getElem? (i := 229) rfl))))))) rfl
theorem cv_law_52 : CV R_law 52 y_Mod_iron b_Mod_iron 3 (some .int) 2 := ⟨cb_Mod_iron, im_Mod_iron, se_Mod_iron, vv_Gin (List.mem_append_right _ (List.mem_append_right _ (List.mem_append_right _ (List.mem_append_right _ (List.mem_append_right _ (List.mem_append_left _ (List.mem_of_getElem? (i := 227) rfl))))))) rfl⟩
theorem cb_Rod_odd : CB y_Rod_odd b_Rod_odd 5 (some .int) 2 := ⟨vv_Gin (List.mem_append_right _ (List.mem_append_right _ (List.mem_append_right _ (List.mem_append_left _ (List.mem_of_getElem? (i := 141) rfl))))) rfl, by decide +kernel, vv_Gin (List.mem_append_right _ (List.mem_append_left _ (List.mem_of_getElem? (i := 1) rfl))) rfl⟩
theorem im_Rod_odd : Cond.instanceMethod y_Rod_odd ∈ vv_G := vv_Gin (List.mem_append_right _ (List.mem_append_right _ (List.mem_append_right _ (List.mem_append_left _ (List.mem_of_getElem? (i := 139) rfl))))) rfl
theorem se_Rod_odd : Cond.selects y_Rod_odd.cls y_Rod_odd y_Rod_odd ∈ vv_G := vv_Gin (List.mem_append_right _ (List.mem_append_right _ (List.mem_append_right _ (List.mem_append_left _ (List.mem_of_getElem? (i := 140) rfl))))) rfl
theorem cv_law_53 : CV R_law 53 y_Rod_odd b_Rod_odd 5 (some .int) 2 := ⟨cb_Rod_odd, im_Rod_odd, se_Rod_odd, vv_Gin (List.mem_append_right _ (List.mem_append_right _ (List.mem_append_right _ (List.mem_append_left _ (List.mem_of_getElem? (i := 138) rfl))))) rfl⟩
theorem cb_Mod_odd : CB y_Mod_odd b_Mod_odd 3 (some .int) 2 := ⟨vv_Gin (List.mem_append_right _ (List.mem_append_right _ (List.mem_append_right _ (List.mem_append_right _ (List.mem_append_right _ (List.mem_append_left _ (List.mem_of_getElem? (i := 234) rfl))))))) rfl, by decide +kernel, vv_Gin (List.mem_append_right _ (List.mem_append_left _ (List.mem_of_getElem? (i := 13) rfl))) rfl⟩
theorem im_Mod_odd : Cond.instanceMethod y_Mod_odd ∈ vv_G := vv_Gin (List.mem_append_right _ (List.mem_append_right _ (List.mem_append_right _ (List.mem_append_right _ (List.mem_append_right _ (List.mem_append_left _ (List.mem_of_getElem? (i := 232) rfl))))))) rfl
theorem se_Mod_odd : Cond.selects y_Mod_odd.cls y_Mod_odd y_Mod_odd ∈ vv_G := vv_Gin (List.mem_append_right _ (List.mem_append_right _ (List.mem_append_right _ (List.mem_append_right _ (List.mem_append_right _ (List.mem_append_left _ (List.mem_of_getElem? (i := 233) rfl))))))) rfl
theorem cv_law_56 : CV R_law 56 y_Mod_odd b_Mod_odd 3 (some .int) 2 := ⟨cb_Mod_odd, im_Mod_odd, se_Mod_odd, vv_Gin (List.mem_append_right _ (List.mem_append_right _ (List.mem_append_right _ (List.mem_append_right _ (List.mem_append_right _ (List.mem_append_left _ (List.mem_of_getElem? (i := 231) rfl))))))) rfl⟩
theorem cb_Rod_claim : CB y_Rod_claim b_Rod_claim 5 (some .int) 2 := ⟨vv_Gin (List.mem_append_right _ (List.mem_append_right _ (List.mem_append_right _ (List.mem_append_left _ (List.mem_of_getElem? (i := 145) rfl))))) rfl, by decide +kernel, vv_Gin (List.mem_append_right _ (List.mem_append_left _ (List.mem_of_getElem? (i := 1) rfl))) rfl⟩
theorem im_Rod_claim : Cond.instanceMethod y_Rod_claim ∈ vv_G := vv_Gin (List.mem_append_right _ (List.mem_append_right _ (List.mem_append_right _ (List.mem_append_left _ (List.mem_of_getElem? (i := 143) rfl))))) rfl
theorem se_Rod_claim : Cond.selects y_Rod_claim.cls y_Rod_claim y_Rod_claim ∈ vv_G := vv_Gin (List.mem_append_right _ (List.mem_append_right _ (List.mem_append_right _ (List.mem_append_left _ (List.mem_of_getElem? (i := 144) rfl))))) rfl
theorem cv_law_57 : CV R_law 57 y_Rod_claim b_Rod_claim 5 (some .int) 2 := ⟨cb_Rod_claim, im_Rod_claim, se_Rod_claim, vv_Gin (List.mem_append_right _ (List.mem_append_right _ (List.mem_append_right _ (List.mem_append_left _ (List.mem_of_getElem? (i := 142) rfl))))) rfl⟩
theorem cb_Mod_claim : CB y_Mod_claim b_Mod_claim 3 (some .int) 2 := ⟨vv_Gin (List.mem_append_right _ (List.mem_append_right _ (List.mem_append_right _ (List.mem_append_right _ (List.mem_append_right _ (List.mem_append_left _ (List.mem_of_getElem? (i := 239) rfl))))))) rfl, by decide +kernel, vv_Gin (List.mem_append_right _ (List.mem_append_left _ (List.mem_of_getElem? (i := 13) rfl))) rfl⟩
theorem im_Mod_claim : Cond.instanceMethod y_Mod_claim ∈ vv_G := vv_Gin (List.mem_append_right _ (List.mem_append_right _ (List.mem_append_right _ (List.mem_append_right _ (List.mem_append_right _ (List.mem_append_left _ (List.mem_of_getElem? (i := 237) rfl))))))) rfl
theorem se_Mod_claim : Cond.selects y_Mod_claim.cls y_Mod_claim y_Mod_claim ∈ vv_G := vv_Gin (List.mem_append_right _ (List.mem_append_right _ (List.mem_append_right _ (List.mem_append_right _ (List.mem_append_right _ (List.mem_append_left _ (List.mem_of_getElem? (i := 238) rfl))))))) rfl
theorem cv_law_60 : CV R_law 60 y_Mod_claim b_Mod_claim 3 (some .int) 2 := ⟨cb_Mod_claim, im_Mod_claim, se_Mod_claim, vv_Gin (List.mem_append_right _ (List.mem_append_right _ (List.mem_append_right _ (List.mem_append_right _ (List.mem_append_right _ (List.mem_append_left _ (List.mem_of_getElem? (i := 236) rfl))))))) rfl⟩
theorem cb_Rod_fund : CB y_Rod_fund b_Rod_fund 4 (some .int) 2 := ⟨vv_Gin (List.mem_append_right _ (List.mem_append_right _ (List.mem_append_right _ (List.mem_append_left _ (List.mem_of_getElem? (i := 149) rfl))))) rfl, by decide +kernel, vv_Gin (List.mem_append_right _ (List.mem_append_left _ (List.mem_of_getElem? (i := 1) rfl))) rfl⟩
theorem im_Rod_fund : Cond.instanceMethod y_Rod_fund ∈ vv_G := vv_Gin (List.mem_append_right _ (List.mem_append_right _ (List.mem_append_right _ (List.mem_append_left _ (List.mem_of_getElem? (i := 147) rfl))))) rfl
theorem se_Rod_fund : Cond.selects y_Rod_fund.cls y_Rod_fund y_Rod_fund ∈ vv_G := vv_Gin (List.mem_append_right _ (List.mem_append_right _ (List.mem_append_right _ (List.mem_append_left _ (List.mem_of_getElem? (i := 148) rfl))))) rfl
theorem cv_law_61 : CV R_law 61 y_Rod_fund b_Rod_fund 4 (some .int) 2 := ⟨cb_Rod_fund, im_Rod_fund, se_Rod_fund, vv_Gin (List.mem_append_right _ (List.mem_append_right _ (List.mem_append_right _ (List.mem_append_left _ (List.mem_of_getElem? (i := 146) rfl))))) rfl⟩
theorem cb_Mod_fund : CB y_Mod_fund b_Mod_fund 3 (some .int) 2 := ⟨vv_Gin (List.mem_append_right _ (List.mem_append_right _ (List.mem_append_right _ (List.mem_append_right _ (List.mem_append_right _ (List.mem_append_right _ (List.mem_of_getElem? (i := 3) rfl))))))) rfl, by decide +kernel, vv_Gin (List.mem_append_right _ (List.mem_append_left _ (List.mem_of_getElem? (i := 13) rfl))) rfl⟩
theorem im_Mod_fund : Cond.instanceMethod y_Mod_fund ∈ vv_G := vv_Gin (List.mem_append_right _ (List.mem_append_right _ (List.mem_append_right _ (List.mem_append_right _ (List.mem_append_right _ (List.mem_append_right _ (List.mem_of_getElem? (i := 1) rfl))))))) rfl
theorem se_Mod_fund : Cond.selects y_Mod_fund.cls y_Mod_fund y_Mod_fund ∈ vv_G := vv_Gin (List.mem_append_right _ (List.mem_append_right _ (List.mem_append_right _ (List.mem_append_right _ (List.mem_append_right _ (List.mem_append_right _ (List.mem_of_getElem? (i := 2) rfl))))))) rfl
theorem cv_law_64 : CV R_law 64 y_Mod_fund b_Mod_fund 3 (some .int) 2 := ⟨cb_Mod_fund, im_Mod_fund, se_Mod_fund, vv_Gin (List.mem_append_right _ (List.mem_append_right _ (List.mem_append_right _ (List.mem_append_right _ (List.mem_append_right _ (List.mem_append_right _ (List.mem_of_getElem? (i := 0) rfl))))))) rfl⟩
theorem cb_Rod_cut : CB y_Rod_cut b_Rod_cut 4 (some .int) 2 := ⟨vv_Gin (List.mem_append_right _ (List.mem_append_right _ (List.mem_append_right _ (List.mem_append_left _ (List.mem_of_getElem? (i := 153) rfl))))) rfl, by decide +kernel, vv_Gin (List.mem_append_right _ (List.mem_append_left _ (List.mem_of_getElem? (i := 1) rfl))) rfl⟩
theorem im_Rod_cut : Cond.instanceMethod y_Rod_cut ∈ vv_G := vv_Gin (List.mem_append_right _ (List.mem_append_right _ (List.mem_append_right _ (List.mem_append_left _ (List.mem_of_getElem? (i := 151) rfl))))) rfl
theorem se_Rod_cut : Cond.selects y_Rod_cut.cls y_Rod_cut y_Rod_cut ∈ vv_G := vv_Gin (List.mem_append_right _ (List.mem_append_right _ (List.mem_append_right _ (List.mem_append_left _ (List.mem_of_getElem? (i := 152) rfl))))) rfl
theorem cv_law_65 : CV R_law 65 y_Rod_cut b_Rod_cut 4 (some .int) 2 := ⟨cb_Rod_cut, im_Rod_cut, se_Rod_cut, vv_Gin (List.mem_append_right _ (List.mem_append_right _ (List.mem_append_right _ (List.mem_append_left _ (List.mem_of_getElem? (i := 150) rfl))))) rfl⟩
theorem cb_Mod_cut : CB y_Mod_cut b_Mod_cut 3 (some .int) 2 := ⟨vv_Gin (List.mem_append_right _ (List.mem_append_right _ (List.mem_append_right _ (List.mem_append_right _ (List.mem_append_right _ (List.mem_append_right _ (List.mem_of_getElem? (i := 8) rfl))))))) rfl, by decide +kernel, vv_Gin (List.mem_append_right _ (List.mem_append_left _ (List.mem_of_getElem? (i := 13) rfl))) rfl⟩
theorem im_Mod_cut : Cond.instanceMethod y_Mod_cut ∈ vv_G := vv_Gin (List.mem_append_right _ (List.mem_append_right _ (List.mem_append_right _ (List.mem_append_right _ (List.mem_append_right _ (List.mem_append_right _ (List.mem_of_getElem? (i := 6) rfl))))))) rfl
theorem se_Mod_cut : Cond.selects y_Mod_cut.cls y_Mod_cut y_Mod_cut ∈ vv_G := vv_Gin (List.mem_append_right _ (List.mem_append_right _ (List.mem_append_right _ (List.mem_append_right _ (List.mem_append_right _ (List.mem_append_right _ (List.mem_of_getElem? (i := 7) rfl))))))) rfl
theorem cv_law_68 : CV R_law 68 y_Mod_cut b_Mod_cut 3 (some .int) 2 := ⟨cb_Mod_cut, im_Mod_cut, se_Mod_cut, vv_Gin (List.mem_append_right _ (List.mem_append_right _ (List.mem_append_right _ (List.mem_append_right _ (List.mem_append_right _ (List.mem_append_right _ (List.mem_of_getElem? (i := 5) rfl))))))) rfl⟩
theorem cb_Rod_owe : CB y_Rod_owe b_Rod_owe 4 (some .int) 3 := ⟨vv_Gin (List.mem_append_right _ (List.mem_append_right _ (List.mem_append_right _ (List.mem_append_left _ (List.mem_of_getElem? (i := 160) rfl))))) rfl, by decide +kernel, vv_Gin (List.mem_append_right _ (List.mem_append_left _ (List.mem_of_getElem? (i := 1) rfl))) rfl⟩
theorem im_Rod_owe : Cond.instanceMethod y_Rod_owe ∈ vv_G := vv_Gin (List.mem_append_right _ (List.mem_append_right _ (List.mem_append_right _ (List.mem_append_left _ (List.mem_of_getElem? (i := 158) rfl))))) rfl
theorem se_Rod_owe : Cond.selects y_Rod_owe.cls y_Rod_owe y_Rod_owe ∈ vv_G := vv_Gin (List.mem_append_right _ (List.mem_append_right _ (List.mem_append_right _ (List.mem_append_left _ (List.mem_of_getElem? (i := 159) rfl))))) rfl
theorem cv_law_69 : CV R_law 69 y_Rod_owe b_Rod_owe 4 (some .int) 3 := ⟨cb_Rod_owe, im_Rod_owe, se_Rod_owe, vv_Gin (List.mem_append_right _ (List.mem_append_right _ (List.mem_append_right _ (List.mem_append_left _ (List.mem_of_getElem? (i := 157) rfl))))) rfl⟩
theorem cb_Mod_owe : CB y_Mod_owe b_Mod_owe 5 (some .int) 3 := ⟨vv_Gin (List.mem_append_right _ (List.mem_append_right _ (List.mem_append_right _ (List.mem_append_right _ (List.mem_append_right _ (List.mem_append_right _ (List.mem_of_getElem? (i := 13) rfl))))))) rfl, by decide +kernel, vv_Gin (List.mem_append_right _ (List.mem_append_left _ (List.mem_of_getElem? (i := 13) rfl))) rfl⟩
theorem im_Mod_owe : Cond.instanceMethod y_Mod_owe ∈ vv_G := vv_Gin (List.mem_append_right _ (List.mem_append_right _ (List.mem_append_right _ (List.mem_append_right _ (List.mem_append_right _ (List.mem_append_right _ (List.mem_of_getElem? (i := 11) rfl))))))) rfl
theorem se_Mod_owe : Cond.selects y_Mod_owe.cls y_Mod_owe y_Mod_owe ∈ vv_G := vv_Gin (List.mem_append_right _ (List.mem_append_right _ (List.mem_append_right _ (List.mem_append_right _ (List.mem_append_right _ (List.mem_append_right _ (List.mem_of_getElem? (i := 12) rfl))))))) rfl
theorem cv_law_73 : CV R_law 73 y_Mod_owe b_Mod_owe 5 (some .int) 3 := ⟨cb_Mod_owe, im_Mod_owe, se_Mod_owe, vv_Gin (List.mem_append_right _ (List.mem_append_right _ (List.mem_append_right _ (List.mem_append_right _ (List.mem_append_right _ (List.mem_append_right _ (List.mem_of_getElem? (i := 10) rfl))))))) rfl⟩
theorem cb_Rod_pay : CB y_Rod_pay b_Rod_pay 3 (some .int) 1 := ⟨vv_Gin (List.mem_append_right _ (List.mem_append_right _ (List.mem_append_right _ (List.mem_append_left _ (List.mem_of_getElem? (i := 165) rfl))))) rfl, by decide +kernel, vv_Gin (List.mem_append_right _ (List.mem_append_left _ (List.mem_of_getElem? (i := 1) rfl))) rfl⟩
theorem im_Rod_pay : Cond.instanceMethod y_Rod_pay ∈ vv_G := vv_Gin (List.mem_append_right _ (List.mem_append_right _ (List.mem_append_right _ (List.mem_append_left _ (List.mem_of_getElem? (i := 163) rfl))))) rfl
theorem se_Rod_pay : Cond.selects y_Rod_pay.cls y_Rod_pay y_Rod_pay ∈ vv_G := vv_Gin (List.mem_append_right _ (List.mem_append_right _ (List.mem_append_right _ (List.mem_append_left _ (List.mem_of_getElem? (i := 164) rfl))))) rfl
theorem cv_law_74 : CV R_law 74 y_Rod_pay b_Rod_pay 3 (some .int) 1 := ⟨cb_Rod_pay, im_Rod_pay, se_Rod_pay, vv_Gin (List.mem_append_right _ (List.mem_append_right _ (List.mem_append_right _ (List.mem_append_left _ (List.mem_of_getElem? (i := 162) rfl))))) rfl⟩
theorem cb_Mod_pay : CB y_Mod_pay b_Mod_pay 2 (some .int) 1 := ⟨vv_Gin (List.mem_append_right _ (List.mem_append_right _ (List.mem_append_right _ (List.mem_append_right _ (List.mem_append_right _ (List.mem_append_right _ (List.mem_of_getElem? (i := 18) rfl))))))) rfl, by decide +kernel, vv_Gin (List.mem_append_right _ (List.mem_append_left _ (List.mem_of_getElem? (i := 13) rfl))) rfl⟩
theorem im_Mod_pay : Cond.instanceMethod y_Mod_pay ∈ vv_G := vv_Gin (List.mem_append_right _ (List.mem_append_right _ (List.mem_append_right _ (List.mem_append_right _ (List.mem_append_right _ (List.mem_append_right _ (List.mem_of_getElem? (i := 16) rfl))))))) rfl
theorem se_Mod_pay : Cond.selects y_Mod_pay.cls y_Mod_pay y_Mod_pay ∈ vv_G := vv_Gin (List.mem_append_right _ (List.mem_append_right _ (List.mem_append_right _ (List.mem_append_right _ (List.mem_append_right _ (List.mem_append_right _ (List.mem_of_getElem? (i := 17) rfl))))))) rfl
theorem cv_law_77 : CV R_law 77 y_Mod_pay b_Mod_pay 2 (some .int) 1 := ⟨cb_Mod_pay, im_Mod_pay, se_Mod_pay, vv_Gin (List.mem_append_right _ (List.mem_append_right _ (List.mem_append_right _ (List.mem_append_right _ (List.mem_append_right _ (List.mem_append_right _ (List.mem_of_getElem? (i := 15) rfl))))))) rfl⟩
theorem cb_Rod_rain : CB y_Rod_rain b_Rod_rain 2 (some .int) 1 := ⟨vv_Gin (List.mem_append_right _ (List.mem_append_right _ (List.mem_append_right _ (List.mem_append_left _ (List.mem_of_getElem? (i := 169) rfl))))) rfl, by decide +kernel, vv_Gin (List.mem_append_right _ (List.mem_append_left _ (List.mem_of_getElem? (i := 1) rfl))) rfl⟩
theorem im_Rod_rain : Cond.instanceMethod y_Rod_rain ∈ vv_G := vv_Gin (List.mem_append_right _ (List.mem_append_right _ (List.mem_append_right _ (List.mem_append_left _ (List.mem_of_getElem? (i := 167) rfl))))) rfl
theorem se_Rod_rain : Cond.selects y_Rod_rain.cls y_Rod_rain y_Rod_rain ∈ vv_G := vv_Gin (List.mem_append_right _ (List.mem_append_right _ (List.mem_append_right _ (List.mem_append_left _ (List.mem_of_getElem? (i := 168) rfl))))) rfl
theorem cv_law_78 : CV R_law 78 y_Rod_rain b_Rod_rain 2 (some .int) 1 := ⟨cb_Rod_rain, im_Rod_rain, se_Rod_rain, vv_Gin (List.mem_append_right _ (List.mem_append_right _ (List.mem_append_right _ (List.mem_append_left _ (List.mem_of_getElem? (i := 166) rfl))))) rfl⟩
theorem cb_Mod_rain : CB y_Mod_rain b_Mod_rain 4 (some .int) 1 := ⟨vv_Gin (List.mem_append_right _ (List.mem_append_right _ (List.mem_append_right _ (List.mem_append_right _ (List.mem_append_right _ (List.mem_append_right _ (List.mem_of_getElem? (i := 22) rfl))))))) rfl, by decide +kernel, vv_Gin (List.mem_append_right _ (List.mem_append_left _ (List.mem_of_getElem? (i := 13) rfl))) rfl⟩
theorem im_Mod_rain : Cond.instanceMethod y_Mod_rain ∈ vv_G := vv_Gin (List.mem_append_right _ (List.mem_append_right _ (List.mem_append_right _ (List.mem_append_right _ (List.mem_append_right _ (List.mem_append_right _ (List.mem_of_getElem? (i := 20) rfl))))))) rfl
theorem se_Mod_rain : Cond.selects y_Mod_rain.cls y_Mod_rain y_Mod_rain ∈ vv_G := vv_Gin (List.mem_append_right _ (List.mem_append_right _ (List.mem_append_right _ (List.mem_append_right _ (List.mem_append_right _ (List.mem_append_right _ (List.mem_of_getElem? (i := 21) rfl))))))) rfl
theorem cv_law_81 : CV R_law 81 y_Mod_rain b_Mod_rain 4 (some .int) 1 := ⟨cb_Mod_rain, im_Mod_rain, se_Mod_rain, vv_Gin (List.mem_append_right _ (List.mem_append_right _ (List.mem_append_right _ (List.mem_append_right _ (List.mem_append_right _ (List.mem_append_right _ (List.mem_of_getElem? (i := 19) rfl))))))) rfl⟩
theorem cb_Rod_twitch : CB y_Rod_twitch b_Rod_twitch 4 (some .int) 3 := ⟨vv_Gin (List.mem_append_right _ (List.mem_append_right _ (List.mem_append_right _ (List.mem_append_left _ (List.mem_of_getElem? (i := 195) rfl))))) rfl, by decide +kernel, vv_Gin (List.mem_append_right _ (List.mem_append_left _ (List.mem_of_getElem? (i := 1) rfl))) rfl⟩
theorem im_Rod_twitch : Cond.instanceMethod y_Rod_twitch ∈ vv_G := vv_Gin (List.mem_append_right _ (List.mem_append_right _ (List.mem_append_right _ (List.mem_append_left _ (List.mem_of_getElem? (i := 193) rfl))))) rfl
theorem se_Rod_twitch : Cond.selects y_Rod_twitch.cls y_Rod_twitch y_Rod_twitch ∈ vv_G := vv_Gin (List.mem_append_right _ (List.mem_append_right _ (List.mem_append_right _ (List.mem_append_left _ (List.mem_of_getElem? (i := 194) rfl))))) rfl
theorem cv_law_82 : CV R_law 82 y_Rod_twitch b_Rod_twitch 4 (some .int) 3 := ⟨cb_Rod_twitch, im_Rod_twitch, se_Rod_twitch, vv_Gin (List.mem_append_right _ (List.mem_append_right _ (List.mem_append_right _ (List.mem_append_left _ (List.mem_of_getElem? (i := 192) rfl))))) rfl⟩
theorem cb_Mod_twitch : CB y_Mod_twitch b_Mod_twitch 4 (some .int) 3 := ⟨vv_Gin (List.mem_append_right _ (List.mem_append_right _ (List.mem_append_right _ (List.mem_append_right _ (List.mem_append_right _ (List.mem_append_right _ (List.mem_of_getElem? (i := 31) rfl))))))) rfl, by decide +kernel, vv_Gin (List.mem_append_right _ (List.mem_append_left _ (List.mem_of_getElem? (i := 13) rfl))) rfl⟩
theorem im_Mod_twitch : Cond.instanceMethod y_Mod_twitch ∈ vv_G := vv_Gin (List.mem_append_right _ (List.mem_append_right _ (List.mem_append_right _ (List.mem_append_right _ (List.mem_append_right _ (List.mem_append_right _ (List.mem_of_getElem? (i := 29) rfl))))))) rfl
theorem se_Mod_twitch : Cond.selects y_Mod_twitch.cls y_Mod_twitch y_Mod_twitch ∈ vv_G := vv_Gin (List.mem_append_right _ (List.mem_append_right _ (List.mem_append_right _ (List.mem_append_right _ (List.mem_append_right _ (List.mem_append_right _ (List.mem_of_getElem? (i := 30) rfl))))))) rfl
theorem cv_law_85 : CV R_law 85 y_Mod_twitch b_Mod_twitch 4 (some .int) 3 := ⟨cb_Mod_twitch, im_Mod_twitch, se_Mod_twitch, vv_Gin (List.mem_append_right _ (List.mem_append_right _ (List.mem_append_right _ (List.mem_append_right _ (List.mem_append_right _ (List.mem_append_right _ (List.mem_of_getElem? (i := 28) rfl))))))) rfl⟩
theorem cb_Rod_see : CB y_Rod_see b_Rod_see 5 (some .int) 4 := ⟨vv_Gin (List.mem_append_right _ (List.mem_append_right _ (List.mem_append_right _ (List.mem_append_left _ (List.mem_of_getElem? (i := 211) rfl))))) rfl, by decide +kernel, vv_Gin (List.mem_append_right _ (List.mem_append_left _ (List.mem_of_getElem? (i := 1) rfl))) rfl⟩
theorem im_Rod_see : Cond.instanceMethod y_Rod_see ∈ vv_G := vv_Gin (List.mem_append_right _ (List.mem_append_right _ (List.mem_append_right _ (List.mem_append_left _ (List.mem_of_getElem? (i := 209) rfl))))) rfl
theorem se_Rod_see : Cond.selects y_Rod_see.cls y_Rod_see y_Rod_see ∈ vv_G := vv_Gin (List.mem_append_right _ (List.mem_append_right _ (List.mem_append_right _ (List.mem_append_left _ (List.mem_of_getElem? (i := 210) rfl))))) rfl
theorem cv_law_86 : CV R_law 86 y_Rod_see b_Rod_see 5 (some .int) 4 := ⟨cb_Rod_see, im_Rod_see, se_Rod_see, vv_Gin (List.mem_append_right _ (List.mem_append_right _ (List.mem_append_right _ (List.mem_append_left _ (List.mem_of_getElem? (i := 208) rfl))))) rfl⟩
theorem cb_Mod_see : CB y_Mod_see b_Mod_see 6 (some .int) 4 := ⟨vv_Gin (List.mem_append_right _ (List.mem_append_right _ (List.mem_append_right _ (List.mem_append_right _ (List.mem_append_right _ (List.mem_append_right _ (List.mem_of_getElem? (i := 43) rfl))))))) rfl, by decide +kernel, vv_Gin (List.mem_append_right _ (List.mem_append_left _ (List.mem_of_getElem? (i := 13) rfl))) rfl⟩
theorem im_Mod_see : Cond.instanceMethod y_Mod_see ∈ vv_G := vv_Gin (List.mem_append_right _ (List.mem_append_right _ (List.mem_append_right _ (List.mem_append_right _ (List.mem_append_right _ (List.mem_append_right _ (List.mem_of_getElem? (i := 41) rfl))))))) rfl
theorem se_Mod_see : Cond.selects y_Mod_see.cls y_Mod_see y_Mod_see ∈ vv_G := vv_Gin (List.mem_append_right _ (List.mem_append_right _ (List.mem_append_right _ (List.mem_append_right _ (List.mem_append_right _ (List.mem_append_right _ (List.mem_of_getElem? (i := 42) rfl))))))) rfl
theorem cv_law_90 : CV R_law 90 y_Mod_see b_Mod_see 6 (some .int) 4 := ⟨cb_Mod_see, im_Mod_see, se_Mod_see, vv_Gin (List.mem_append_right _ (List.mem_append_right _ (List.mem_append_right _ (List.mem_append_right _ (List.mem_append_right _ (List.mem_append_right _ (List.mem_of_getElem? (i := 40) rfl))))))) rfl⟩
theorem cb_Rod_forget : CB y_Rod_forget b_Rod_forget 3 (some .int) 1 := ⟨vv_Gin (List.mem_append_right _ (List.mem_append_right _ (List.mem_append_right _ (List.mem_append_left _ (List.mem_of_getElem? (i := 219) rfl))))) rfl, by decide +kernel, vv_Gin (List.mem_append_right _ (List.mem_append_left _ (List.mem_of_getElem? (i := 1) rfl))) rfl⟩
theorem im_Rod_forget : Cond.instanceMethod y_Rod_forget ∈ vv_G := vv_Gin (List.mem_append_right _ (List.mem_append_right _ (List.mem_append_right _ (List.mem_append_left _ (List.mem_of_getElem? (i := 217) rfl))))) rfl
theorem se_Rod_forget : Cond.selects y_Rod_forget.cls y_Rod_forget y_Rod_forget ∈ vv_G := vv_Gin (List.mem_append_right _ (List.mem_append_right _ (List.mem_append_right _ (List.mem_append_left _ (List.mem_of_getElem? (i := 218) rfl))))) rfl
theorem cv_law_91 : CV R_law 91 y_Rod_forget b_Rod_forget 3 (some .int) 1 := ⟨cb_Rod_forget, im_Rod_forget, se_Rod_forget, vv_Gin (List.mem_append_right _ (List.mem_append_right _ (List.mem_append_right _ (List.mem_append_left _ (List.mem_of_getElem? (i := 216) rfl))))) rfl⟩
theorem cb_Mod_forget : CB y_Mod_forget b_Mod_forget 2 (some .int) 1 := ⟨vv_Gin (List.mem_append_right _ (List.mem_append_right _ (List.mem_append_right _ (List.mem_append_right _ (List.mem_append_right _ (List.mem_append_right _ (List.mem_of_getElem? (i := 47) rfl))))))) rfl, by decide +kernel, vv_Gin (List.mem_append_right _ (List.mem_append_left _ (List.mem_of_getElem? (i := 13) rfl))) rfl⟩
theorem im_Mod_forget : Cond.instanceMethod y_Mod_forget ∈ vv_G := vv_Gin (List.mem_append_right _ (List.mem_append_right _ (List.mem_append_right _ (List.mem_append_right _ (List.mem_append_right _ (List.mem_append_right _ (List.mem_of_getElem? (i := 45) rfl))))))) rfl
theorem se_Mod_forget : Cond.selects y_Mod_forget.cls y_Mod_forget y_Mod_forget ∈ vv_G := vv_Gin (List.mem_append_right _ (List.mem_append_right _ (List.mem_append_right _ (List.mem_append_right _ (List.mem_append_right _ (List.mem_append_right _ (List.mem_of_getElem? (i := 46) rfl))))))) rfl
theorem cv_law_94 : CV R_law 94 y_Mod_forget b_Mod_forget 2 (some .int) 1 := ⟨cb_Mod_forget, im_Mod_forget, se_Mod_forget, vv_Gin (List.mem_append_right _ (List.mem_append_right _ (List.mem_append_right _ (List.mem_append_right _ (List.mem_append_right _ (List.mem_append_right _ (List.mem_of_getElem? (i := 44) rfl))))))) rfl⟩
theorem cb_Rod_natures : CB y_Rod_natures b_Rod_natures 4 (some .int) 0 := ⟨vv_Gin (List.mem_append_right _ (List.mem_append_right _ (List.mem_append_right _ (List.mem_append_left _ (List.mem_of_getElem? (i := 223) rfl))))) rfl, by decide +kernel, vv_Gin (List.mem_append_right _ (List.mem_append_left _ (List.mem_of_getElem? (i := 1) rfl))) rfl⟩
theorem im_Rod_natures : Cond.instanceMethod y_Rod_natures ∈ vv_G := vv_Gin (List.mem_append_right _ (List.mem_append_right _ (List.mem_append_right _ (List.mem_append_left _ (List.mem_of_getElem? (i := 221) rfl))))) rfl
theorem se_Rod_natures : Cond.selects y_Rod_natures.cls y_Rod_natures y_Rod_natures ∈ vv_G := vv_Gin (List.mem_append_right _ (List.mem_append_right _ (List.mem_append_right _ (List.mem_append_left _ (List.mem_of_getElem? (i := 222) rfl))))) rfl
theorem cv_law_95 : CV R_law 95 y_Rod_natures b_Rod_natures 4 (some .int) 0 := ⟨cb_Rod_natures, im_Rod_natures, se_Rod_natures, vv_Gin (List.mem_append_right _ (List.mem_append_right _ (List.mem_append_right _ (List.mem_append_left _ (List.mem_of_getElem? (i := 220) rfl))))) rfl⟩
theorem cb_Mod_natures : CB y_Mod_natures b_Mod_natures 4 (some .int) 0 := ⟨vv_Gin (List.mem_append_right _ (List.mem_append_right _ (List.mem_append_right _ (List.mem_append_right _ (List.mem_append_right _ (List.mem_append_right _ (List.mem_of_getElem? (i := 51) rfl))))))) rfl, by decide +kernel, vv_Gin (List.mem_append_right _ (List.mem_append_left _ (List.mem_of_getElem? (i := 13) rfl))) rfl⟩
theorem im_Mod_natures : Cond.instanceMethod y_Mod_natures ∈ vv_G := vv_Gin (List.mem_append_right _ (List.mem_append_right _ (List.mem_append_right _ (List.mem_append_right _ (List.mem_append_right _ (List.mem_append_right _ (List.mem_of_getElem? (i := 49) rfl))))))) rfl
theorem se_Mod_natures : Cond.selects y_Mod_natures.cls y_Mod_natures y_Mod_natures ∈ vv_G := vv_Gin (List.mem_append_right _ (List.mem_append_right _ (List.mem_append_right _ (List.mem_append_right _ (List.mem_append_right _ (List.mem_append_right _ (List.mem_of_getElem? (i := 50) rfl))))))) rfl
theorem cv_law_98 : CV R_law 98 y_Mod_natures b_Mod_natures 4 (some .int) 0 := ⟨cb_Mod_natures, im_Mod_natures, se_Mod_natures, vv_Gin (List.mem_append_right _ (List.mem_append_right _ (List.mem_append_right _ (List.mem_append_right _ (List.mem_append_right _ (List.mem_append_right _ (List.mem_of_getElem? (i := 48) rfl))))))) rfl⟩
theorem cb_Rod_reaches : CB y_Rod_reaches b_Rod_reaches 5 (some .int) 1 := ⟨vv_Gin (List.mem_append_right _ (List.mem_append_right _ (List.mem_append_right _ (List.mem_append_right _ (List.mem_append_left _ (List.mem_of_getElem? (i := 4) rfl)))))) rfl, by decide +kernel, vv_Gin (List.mem_append_right _ (List.mem_append_left _ (List.mem_of_getElem? (i := 1) rfl))) rfl⟩
theorem im_Rod_reaches : Cond.instanceMethod y_Rod_reaches ∈ vv_G := vv_Gin (List.mem_append_right _ (List.mem_append_right _ (List.mem_append_right _ (List.mem_append_right _ (List.mem_append_left _ (List.mem_of_getElem? (i := 2) rfl)))))) rfl
theorem se_Rod_reaches : Cond.selects y_Rod_reaches.cls y_Rod_reaches y_Rod_reaches ∈ vv_G := vv_Gin (List.mem_append_right _ (List.mem_append_right _ (List.mem_append_right _ (List.mem_append_right _ (List.mem_append_left _ (List.mem_of_getElem? (i := 3) rfl)))))) rfl
theorem cv_law_99 : CV R_law 99 y_Rod_reaches b_Rod_reaches 5 (some .int) 1 := ⟨cb_Rod_reaches, im_Rod_reaches, se_Rod_reaches, vv_Gin (List.mem_append_right _ (List.mem_append_right _ (List.mem_append_right _ (List.mem_append_right _ (List.mem_append_left _ (List.mem_of_getElem? (i := 1) rfl)))))) rfl⟩
theorem cb_Mod_reaches : CB y_Mod_reaches b_Mod_reaches 4 (some .int) 1 := ⟨vv_Gin (List.mem_append_right _ (List.mem_append_right _ (List.mem_append_right _ (List.mem_append_right _ (List.mem_append_right _ (List.mem_append_right _ (List.mem_of_getElem? (i := 62) rfl))))))) rfl, by decide +kernel, vv_Gin (List.mem_append_right _ (List.mem_append_left _ (List.mem_of_getElem? (i := 13) rfl))) rfl⟩
theorem im_Mod_reaches : Cond.instanceMethod y_Mod_reaches ∈ vv_G := vv_Gin (List.mem_append_right _ (List.mem_append_right _ (List.mem_append_right _ (List.mem_append_right _ (List.mem_append_right _ (List.mem_append_right _ (List.mem_of_getElem? (i := 60) rfl))))))) rfl
theorem se_Mod_reaches : Cond.selects y_Mod_reaches.cls y_Mod_reaches y_Mod_reaches ∈ vv_G := vv_Gin (List.mem_append_right _ (List.mem_append_right _ (List.mem_append_right _ (List.mem_append_right _ (List.mem_append_right _ (List.mem_append_right _ (List.mem_of_getElem? (i := 61) rfl))))))) rfl
theorem cv_law_102 : CV R_law 102 y_Mod_reaches b_Mod_reaches 4 (some .int) 1 := ⟨cb_Mod_reaches, im_Mod_reaches, se_Mod_reaches, vv_Gin (List.mem_append_right _ (List.mem_append_right _ (List.mem_append_right _ (List.mem_append_right _ (List.mem_append_right _ (List.mem_append_right _ (List.mem_of_getElem? (i := 59) rfl))))))) rfl⟩
theorem cb_Rod_test : CB y_Rod_test b_Rod_test 11 (some .int) 2 := ⟨vv_Gin (List.mem_append_right _ (List.mem_append_right _ (List.mem_append_right _ (List.mem_append_right _ (List.mem_append_left _ (List.mem_of_getElem? (i := 12) rfl)))))) rfl, by decide +kernel, vv_Gin (List.mem_append_right _ (List.mem_append_left _ (List.mem_of_getElem? (i := 1) rfl))) rfl⟩
theorem im_Rod_test : Cond.instanceMethod y_Rod_test ∈ vv_G := vv_Gin (List.mem_append_right _ (List.mem_append_right _ (List.mem_append_right _ (List.mem_append_right _ (List.mem_append_left _ (List.mem_of_getElem? (i := 10) rfl)))))) rfl
theorem se_Rod_test : Cond.selects y_Rod_test.cls y_Rod_test y_Rod_test ∈ vv_G := vv_Gin (List.mem_append_right _ (List.mem_append_right _ (List.mem_append_right _ (List.mem_append_right _ (List.mem_append_left _ (List.mem_of_getElem? (i := 11) rfl)))))) rfl
theorem cv_law_103 : CV R_law 103 y_Rod_test b_Rod_test 11 (some .int) 2 := ⟨cb_Rod_test, im_Rod_test, se_Rod_test, vv_Gin (List.mem_append_right _ (List.mem_append_right _ (List.mem_append_right _ (List.mem_append_right _ (List.mem_append_left _ (List.mem_of_getElem? (i := 9) rfl)))))) rfl⟩
theorem cb_Mod_test : CB y_Mod_test b_Mod_test 10 (some .int) 2 := ⟨vv_Gin (List.mem_append_right _ (List.mem_append_right _ (List.mem_append_right _ (List.mem_append_right _ (List.mem_append_right _ (List.mem_append_right _ (List.mem_of_getElem? (i := 66) rfl))))))) rfl, by decide +kernel, vv_Gin (List.mem_append_right _ (List.mem_append_left _ (List.mem_of_getElem? (i := 13) rfl))) rfl⟩
theorem im_Mod_test : Cond.instanceMethod y_Mod_test ∈ vv_G := vv_Gin (List.mem_append_right _ (List.mem_append_right _ (List.mem_append_right _ (List.mem_append_right _ (List.mem_append_right _ (List.mem_append_right _ (List.mem_of_getElem? (i := 64) rfl))))))) rfl
theorem se_Mod_test : Cond.selects y_Mod_test.cls y_Mod_test y_Mod_test ∈ vv_G := vv_Gin (List.mem_append_right _ (List.mem_append_right _ (List.mem_append_right _ (List.mem_append_right _ (List.mem_append_right _ (List.mem_append_right _ (List.mem_of_getElem? (i := 65) rfl))))))) rfl
theorem cv_law_106 : CV R_law 106 y_Mod_test b_Mod_test 10 (some .int) 2 := ⟨cb_Mod_test, im_Mod_test, se_Mod_test, vv_Gin (List.mem_append_right _ (List.mem_append_right _ (List.mem_append_right _ (List.mem_append_right _ (List.mem_append_right _ (List.mem_append_right _ (List.mem_of_getElem? (i := 63) rfl))))))) rfl⟩
theorem cb_Rod_show : CB y_Rod_show b_Rod_show 5 (some .int) 4 := ⟨vv_Gin (List.mem_append_right _ (List.mem_append_right _ (List.mem_append_right _ (List.mem_append_right _ (List.mem_append_left _ (List.mem_of_getElem? (i := 20) rfl)))))) rfl, by decide +kernel, vv_Gin (List.mem_append_right _ (List.mem_append_left _ (List.mem_of_getElem? (i := 1) rfl))) rfl⟩
theorem im_Rod_show : Cond.instanceMethod y_Rod_show ∈ vv_G := vv_Gin (List.mem_append_right _ (List.mem_append_right _ (List.mem_append_right _ (List.mem_append_right _ (List.mem_append_left _ (List.mem_of_getElem? (i := 18) rfl)))))) rfl
theorem se_Rod_show : Cond.selects y_Rod_show.cls y_Rod_show y_Rod_show ∈ vv_G := vv_Gin (List.mem_append_right _ (List.mem_append_right _ (List.mem_append_right _ (List.mem_append_right _ (List.mem_append_left _ (List.mem_of_getElem? (i := 19) rfl)))))) rfl
theorem cv_law_107 : CV R_law 107 y_Rod_show b_Rod_show 5 (some .int) 4 := ⟨cb_Rod_show, im_Rod_show, se_Rod_show, vv_Gin (List.mem_append_right _ (List.mem_append_right _ (List.mem_append_right _ (List.mem_append_right _ (List.mem_append_left _ (List.mem_of_getElem? (i := 17) rfl)))))) rfl⟩
theorem cb_Mod_show : CB y_Mod_show b_Mod_show 7 (some .int) 4 := ⟨vv_Gin (List.mem_append_right _ (List.mem_append_right _ (List.mem_append_right _ (List.mem_append_right _ (List.mem_append_right _ (List.mem_append_right _ (List.mem_of_getElem? (i := 74) rfl))))))) rfl, by decide +kernel, vv_Gin (List.mem_append_right _ (List.mem_append_left _ (List.mem_of_getElem? (i := 13) rfl))) rfl⟩
theorem im_Mod_show : Cond.instanceMethod y_Mod_show ∈ vv_G := vv_Gin (List.mem_append_right _ (List.mem_append_right _ (List.mem_append_right _ (List.mem_append_right _ (List.mem_append_right _ (List.mem_append_right _ (List.mem_of_getElem? (i := 72) rfl))))))) rfl
theorem se_Mod_show : Cond.selects y_Mod_show.cls y_Mod_show y_Mod_show ∈ vv_G := vv_Gin (List.mem_append_right _ (List.mem_append_right _ (List.mem_append_right _ (List.mem_append_right _ (List.mem_append_right _ (List.mem_append_right _ (List.mem_of_getElem? (i := 73) rfl))))))) rfl
theorem cv_law_111 : CV R_law 111 y_Mod_show b_Mod_show 7 (some .int) 4 := ⟨cb_Mod_show, im_Mod_show, se_Mod_show, vv_Gin (List.mem_append_right _ (List.mem_append_right _ (List.mem_append_right _ (List.mem_append_right _ (List.mem_append_right _ (List.mem_append_right _ (List.mem_of_getElem? (i := 71) rfl))))))) rfl⟩
theorem cb_Rod_bore : CB y_Rod_bore b_Rod_bore 4 (some .int) 3 := ⟨vv_Gin (List.mem_append_right _ (List.mem_append_right _ (List.mem_append_right _ (List.mem_append_right _ (List.mem_append_left _ (List.mem_of_getElem? (i := 46) rfl)))))) rfl, by decide +kernel, vv_Gin (List.mem_append_right _ (List.mem_append_left _ (List.mem_of_getElem? (i := 1) rfl))) rfl⟩
theorem im_Rod_bore : Cond.instanceMethod y_Rod_bore ∈ vv_G := vv_Gin (List.mem_append_right _ (List.mem_append_right _ (List.mem_append_right _ (List.mem_append_right _ (List.mem_append_left _ (List.mem_of_getElem? (i := 44) rfl)))))) rfl
theorem se_Rod_bore : Cond.selects y_Rod_bore.cls y_Rod_bore y_Rod_bore ∈ vv_G := vv_Gin (List.mem_append_right _ (List.mem_append_right _ (List.mem_append_right _ (List.mem_append_right _ (List.mem_append_left _ (List.mem_of_getElem? (i := 45) rfl)))))) rfl
theorem cv_law_112 : CV R_law 112 y_Rod_bore b_Rod_bore 4 (some .int) 3 := ⟨cb_Rod_bore, im_Rod_bore, se_Rod_bore, vv_Gin (List.mem_append_right _ (List.mem_append_right _ (List.mem_append_right _ (List.mem_append_right _ (List.mem_append_left _ (List.mem_of_getElem? (i := 43) rfl)))))) rfl⟩
theorem cv_law_115 : CV R_law 115 y_Mod_bore b_Mod_bore 9 (some .int) 3 := ⟨cb_Mod_bore, im_Mod_bore, se_Mod_bore, vv_Gin (List.mem_append_right _ (List.mem_append_right _ (List.mem_append_right _ (List.mem_append_right _ (List.mem_append_right _ (List.mem_append_right _ (List.mem_of_getElem? (i := 92) rfl))))))) rfl⟩
theorem cb_Rod_plan : CB y_Rod_plan b_Rod_plan 5 (some .long) 4 := ⟨vv_Gin (List.mem_append_right _ (List.mem_append_right _ (List.mem_append_right _ (List.mem_append_right _ (List.mem_append_left _ (List.mem_of_getElem? (i := 62) rfl)))))) rfl, by decide +kernel, vv_Gin (List.mem_append_right _ (List.mem_append_left _ (List.mem_of_getElem? (i := 1) rfl))) rfl⟩
theorem im_Rod_plan : Cond.instanceMethod y_Rod_plan ∈ vv_G := vv_Gin (List.mem_append_right _ (List.mem_append_right _ (List.mem_append_right _ (List.mem_append_right _ (List.mem_append_left _ (List.mem_of_getElem? (i := 60) rfl)))))) rfl
theorem se_Rod_plan : Cond.selects y_Rod_plan.cls y_Rod_plan y_Rod_plan ∈ vv_G := vv_Gin (List.mem_append_right _ (List.mem_append_right _ (List.mem_append_right _ (List.mem_append_right _ (List.mem_append_left _ (List.mem_of_getElem? (i := 61) rfl)))))) rfl
theorem cv_law_116 : CV R_law 116 y_Rod_plan b_Rod_plan 5 (some .long) 4 := ⟨cb_Rod_plan, im_Rod_plan, se_Rod_plan, vv_Gin (List.mem_append_right _ (List.mem_append_right _ (List.mem_append_right _ (List.mem_append_right _ (List.mem_append_left _ (List.mem_of_getElem? (i := 59) rfl)))))) rfl⟩
theorem cb_Mod_plan : CB y_Mod_plan b_Mod_plan 7 (some .long) 4 := ⟨vv_Gin (List.mem_append_right _ (List.mem_append_right _ (List.mem_append_right _ (List.mem_append_right _ (List.mem_append_right _ (List.mem_append_right _ (List.mem_of_getElem? (i := 99) rfl))))))) rfl, by decide +kernel, vv_Gin (List.mem_append_right _ (List.mem_append_left _ (List.mem_of_getElem? (i := 13) rfl))) rfl⟩
theorem im_Mod_plan : Cond.instanceMethod y_Mod_plan ∈ vv_G := vv_Gin (List.mem_append_right _ (List.mem_append_right _ (List.mem_append_right _ (List.mem_append_right _ (List.mem_append_right _ (List.mem_append_right _ (List.mem_of_getElem? (i := 97) rfl))))))) rfl
theorem se_Mod_plan : Cond.selects y_Mod_plan.cls y_Mod_plan y_Mod_plan ∈ vv_G := vv_Gin (List.mem_append_right _ (List.mem_append_right _ (List.mem_append_right _ (List.mem_append_right _ (List.mem_append_right _ (List.mem_append_right _ (List.mem_of_getElem? (i := 98) rfl))))))) rfl
theorem cv_law_120 : CV R_law 120 y_Mod_plan b_Mod_plan 7 (some .long) 4 := ⟨cb_Mod_plan, im_Mod_plan, se_Mod_plan, vv_Gin (List.mem_append_right _ (List.mem_append_right _ (List.mem_append_right _ (List.mem_append_right _ (List.mem_append_right _ (List.mem_append_right _ (List.mem_of_getElem? (i := 96) rfl))))))) rfl⟩
theorem cb_Rod_beds : CB y_Rod_beds b_Rod_beds 2 (some .int) 1 := ⟨vv_Gin (List.mem_append_right _ (List.mem_append_right _ (List.mem_append_right _ (List.mem_append_right _ (List.mem_append_left _ (List.mem_of_getElem? (i := 90) rfl)))))) rfl, by decide +kernel, vv_Gin (List.mem_append_right _ (List.mem_append_left _ (List.mem_of_getElem? (i := 1) rfl))) rfl⟩
theorem im_Rod_beds : Cond.instanceMethod y_Rod_beds ∈ vv_G := vv_Gin (List.mem_append_right _ (List.mem_append_right _ (List.mem_append_right _ (List.mem_append_right _ (List.mem_append_left _ (List.mem_of_getElem? (i := 88) rfl)))))) rfl
theorem se_Rod_beds : Cond.selects y_Rod_beds.cls y_Rod_beds y_Rod_beds ∈ vv_G := vv_Gin (List.mem_append_right _ (List.mem_append_right _ (List.mem_append_right _ (List.mem_append_right _ (List.mem_append_left _ (List.mem_of_getElem? (i := 89) rfl)))))) rfl
theorem cv_law_121 : CV R_law 121 y_Rod_beds b_Rod_beds 2 (some .int) 1 := ⟨cb_Rod_beds, im_Rod_beds, se_Rod_beds, vv_Gin (List.mem_append_right _ (List.mem_append_right _ (List.mem_append_right _ (List.mem_append_right _ (List.mem_append_left _ (List.mem_of_getElem? (i := 87) rfl)))))) rfl⟩
theorem cb_Mod_beds : CB y_Mod_beds b_Mod_beds 8 (some .int) 1 := ⟨vv_Gin (List.mem_append_right _ (List.mem_append_right _ (List.mem_append_right _ (List.mem_append_right _ (List.mem_append_right _ (List.mem_append_right _ (List.mem_of_getElem? (i := 122) rfl))))))) rfl, by decide +kernel, vv_Gin (List.mem_append_right _ (List.mem_append_left _ (List.mem_of_getElem? (i := 13) rfl))) rfl⟩
theorem im_Mod_beds : Cond.instanceMethod y_Mod_beds ∈ vv_G := vv_Gin (List.mem_append_right _ (List.mem_append_right _ (List.mem_append_right _ (List.mem_append_right _ (List.mem_append_right _ (List.mem_append_right _ (List.mem_of_getElem? (i := 120) rfl))))))) rfl
theorem se_Mod_beds : Cond.selects y_Mod_beds.cls y_Mod_beds y_Mod_beds ∈ vv_G := vv_Gin (List.mem_append_right _ (List.mem_append_right _ (List.mem_append_right _ (List.mem_append_right _ (List.mem_append_right _ (List.mem_append_right _ (List.mem_of_getElem? (i := 121) rfl))))))) rfl
theorem cv_law_124 : CV R_law 124 y_Mod_beds b_Mod_beds 8 (some .int) 1 := ⟨cb_Mod_beds, im_Mod_beds, se_Mod_beds, vv_Gin (List.mem_append_right _ (List.mem_append_right _ (List.mem_append_right _ (List.mem_append_right _ (List.mem_append_right _ (List.mem_append_right _ (List.mem_of_getElem? (i := 119) rfl))))))) rfl⟩
theorem cb_Rod_next : CB y_Rod_next b_Rod_next 9 (some .int) 2 := ⟨vv_Gin (List.mem_append_right _ (List.mem_append_right _ (List.mem_append_right _ (List.mem_append_right _ (List.mem_append_left _ (List.mem_of_getElem? (i := 117) rfl)))))) rfl, by decide +kernel, vv_Gin (List.mem_append_right _ (List.mem_append_left _ (List.mem_of_getElem? (i := 1) rfl))) rfl⟩
theorem im_Rod_next : Cond.instanceMethod y_Rod_next ∈ vv_G := vv_Gin (List.mem_append_right _ (List.mem_append_right _ (List.mem_append_right _ (List.mem_append_right _ (List.mem_append_left _ (List.mem_of_getElem? (i := 115) rfl)))))) rfl
theorem se_Rod_next : Cond.selects y_Rod_next.cls y_Rod_next y_Rod_next ∈ vv_G := vv_Gin (List.mem_append_right _ (List.mem_append_right _ (List.mem_append_right _ (List.mem_append_right _ (List.mem_append_left _ (List.mem_of_getElem? (i := 116) rfl)))))) rfl
theorem cv_law_125 : CV R_law 125 y_Rod_next b_Rod_next 9 (some .int) 2 := ⟨cb_Rod_next, im_Rod_next, se_Rod_next, vv_Gin (List.mem_append_right _ (List.mem_append_right _ (List.mem_append_right _ (List.mem_append_right _ (List.mem_append_left _ (List.mem_of_getElem? (i := 114) rfl)))))) rfl⟩
theorem cb_Mod_next_ : CB y_Mod_next_ b_Mod_next_ 9 (some .int) 2 := ⟨vv_Gin (List.mem_append_right _ (List.mem_append_right _ (List.mem_append_right _ (List.mem_append_right _ (List.mem_append_right _ (List.mem_append_right _ (List.mem_of_getElem? (i := 138) rfl))))))) rfl, by decide +kernel, vv_Gin (List.mem_append_right _ (List.mem_append_left _ (List.mem_of_getElem? (i := 13) rfl))) rfl⟩
theorem im_Mod_next_ : Cond.instanceMethod y_Mod_next_ ∈ vv_G := vv_Gin (List.mem_append_right _ (List.mem_append_right _ (List.mem_append_right _ (List.mem_append_right _ (List.mem_append_right _ (List.mem_append_right _ (List.mem_of_getElem? (i := 136) rfl))))))) rfl
theorem se_Mod_next_ : Cond.selects y_Mod_next_.cls y_Mod_next_ y_Mod_next_ ∈ vv_G := vv_Gin (List.mem_append_right _ (List.mem_append_right _ (List.mem_append_right _ (List.mem_append_right _ (List.mem_append_right _ (List.mem_append_right _ (List.mem_of_getElem? (i := 137) rfl))))))) rfl
theorem cv_law_128 : CV R_law 128 y_Mod_next_ b_Mod_next_ 9 (some .int) 2 := ⟨cb_Mod_next_, im_Mod_next_, se_Mod_next_, vv_Gin (List.mem_append_right _ (List.mem_append_right _ (List.mem_append_right _ (List.mem_append_right _ (List.mem_append_right _ (List.mem_append_right _ (List.mem_of_getElem? (i := 135) rfl))))))) rfl⟩
theorem cb_Rod_crash : CB y_Rod_crash b_Rod_crash 7 (some .int) 1 := ⟨vv_Gin (List.mem_append_right _ (List.mem_append_right _ (List.mem_append_right _ (List.mem_append_right _ (List.mem_append_left _ (List.mem_of_getElem? (i := 125) rfl)))))) rfl, by decide +kernel, vv_Gin (List.mem_append_right _ (List.mem_append_left _ (List.mem_of_getElem? (i := 1) rfl))) rfl⟩
theorem im_Rod_crash : Cond.instanceMethod y_Rod_crash ∈ vv_G := vv_Gin (List.mem_append_right _ (List.mem_append_right _ (List.mem_append_right _ (List.mem_append_right _ (List.mem_append_left _ (List.mem_of_getElem? (i := 123) rfl)))))) rfl
theorem se_Rod_crash : Cond.selects y_Rod_crash.cls y_Rod_crash y_Rod_crash ∈ vv_G := vv_Gin (List.mem_append_right _ (List.mem_append_right _ (List.mem_append_right _ (List.mem_append_right _ (List.mem_append_left _ (List.mem_of_getElem? (i := 124) rfl)))))) rfl
theorem cv_law_129 : CV R_law 129 y_Rod_crash b_Rod_crash 7 (some .int) 1 := ⟨cb_Rod_crash, im_Rod_crash, se_Rod_crash, vv_Gin (List.mem_append_right _ (List.mem_append_right _ (List.mem_append_right _ (List.mem_append_right _ (List.mem_append_left _ (List.mem_of_getElem? (i := 122) rfl)))))) rfl⟩
theorem cb_Mod_crash : CB y_Mod_crash b_Mod_crash 3 (some .int) 1 := ⟨vv_Gin (List.mem_append_right _ (List.mem_append_right _ (List.mem_append_right _ (List.mem_append_right _ (List.mem_append_right _ (List.mem_append_right _ (List.mem_of_getElem? (i := 146) rfl))))))) rfl, by decide +kernel, vv_Gin (List.mem_append_right _ (List.mem_append_left _ (List.mem_of_getElem? (i := 13) rfl))) rfl⟩
theorem im_Mod_crash : Cond.instanceMethod y_Mod_crash ∈ vv_G := vv_Gin (List.mem_append_right _ (List.mem_append_right _ (List.mem_append_right _ (List.mem_append_right _ (List.mem_append_right _ (List.mem_append_right _ (List.mem_of_getElem? (i := 144) rfl))))))) rfl
theorem se_Mod_crash : Cond.selects y_Mod_crash.cls y_Mod_crash y_Mod_crash ∈ vv_G := vv_Gin (List.mem_append_right _ (List.mem_append_right _ (List.mem_append_right _ (List.mem_append_right _ (List.mem_append_right _ (List.mem_append_right _ (List.mem_of_getElem? (i := 145) rfl))))))) rfl
theorem cv_law_132 : CV R_law 132 y_Mod_crash b_Mod_crash 3 (some .int) 1 := ⟨cb_Mod_crash, im_Mod_crash, se_Mod_crash, vv_Gin (List.mem_append_right _ (List.mem_append_right _ (List.mem_append_right _ (List.mem_append_right _ (List.mem_append_right _ (List.mem_append_right _ (List.mem_of_getElem? (i := 143) rfl))))))) rfl⟩
theorem cb_Rod_save : CB y_Rod_save b_Rod_save 2 (some .int) 1 := ⟨vv_Gin (List.mem_append_right _ (List.mem_append_right _ (List.mem_append_right _ (List.mem_append_right _ (List.mem_append_left _ (List.mem_of_getElem? (i := 137) rfl)))))) rfl, by decide +kernel, vv_Gin (List.mem_append_right _ (List.mem_append_left _ (List.mem_of_getElem? (i := 1) rfl))) rfl⟩
theorem im_Rod_save : Cond.instanceMethod y_Rod_save ∈ vv_G := vv_Gin (List.mem_append_right _ (List.mem_append_right _ (List.mem_append_right _ (List.mem_append_right _ (List.mem_append_left _ (List.mem_of_getElem? (i := 135) rfl)))))) rfl
theorem se_Rod_save : Cond.selects y_Rod_save.cls y_Rod_save y_Rod_save ∈ vv_G := vv_Gin (List.mem_append_right _ (List.mem_append_right _ (List.mem_append_right _ (List.mem_append_right _ (List.mem_append_left _ (List.mem_of_getElem? (i := 136) rfl)))))) rfl
theorem cv_law_133 : CV R_law 133 y_Rod_save b_Rod_save 2 (some .int) 1 := ⟨cb_Rod_save, im_Rod_save, se_Rod_save, vv_Gin (List.mem_append_right _ (List.mem_append_right _ (List.mem_append_right _ (List.mem_append_right _ (List.mem_append_left _ (List.mem_of_getElem? (i := 134) rfl)))))) rfl⟩
theorem cb_Mod_save : CB y_Mod_save b_Mod_save 3 (some .int) 1 := ⟨vv_Gin (List.mem_append_right _ (List.mem_append_right _ (List.mem_append_right _ (List.mem_append_right _ (List.mem_append_right _ (List.mem_append_right _ (List.mem_of_getElem? (i := 158) rfl))))))) rfl, by decide +kernel, vv_Gin (List.mem_append_right _ (List.mem_append_left _ (List.mem_of_getElem? (i := 13) rfl))) rfl⟩
theorem im_Mod_save : Cond.instanceMethod y_Mod_save ∈ vv_G := vv_Gin (List.mem_append_right _ (List.mem_append_right _ (List.mem_append_right _ (List.mem_append_right _ (List.mem_append_right _ (List.mem_append_right _ (List.mem_of_getElem? (i := 156) rfl))))))) rfl
theorem se_Mod_save : Cond.selects y_Mod_save.cls y_Mod_save y_Mod_save ∈ vv_G := vv_Gin (List.mem_append_right _ (List.mem_append_right _ (List.mem_append_right _ (List.mem_append_right _ (List.mem_append_right _ (List.mem_append_right _ (List.mem_of_getElem? (i := 157) rfl))))))) rfl
theorem cv_law_136 : CV R_law 136 y_Mod_save b_Mod_save 3 (some .int) 1 := ⟨cb_Mod_save, im_Mod_save, se_Mod_save, vv_Gin (List.mem_append_right _ (List.mem_append_right _ (List.mem_append_right _ (List.mem_append_right _ (List.mem_append_right _ (List.mem_append_right _ (List.mem_of_getElem? (i := 155) rfl))))))) rfl⟩
theorem cb_Rod_luck : CB y_Rod_luck b_Rod_luck 9 (some .int) 2 := ⟨vv_Gin (List.mem_append_right _ (List.mem_append_right _ (List.mem_append_right _ (List.mem_append_right _ (List.mem_append_left _ (List.mem_of_getElem? (i := 142) rfl)))))) rfl, by decide +kernel, vv_Gin (List.mem_append_right _ (List.mem_append_left _ (List.mem_of_getElem? (i := 1) rfl))) rfl⟩
theorem im_Rod_luck : Cond.instanceMethod y_Rod_luck ∈ vv_G := vv_Gin (List.mem_append_right _ (List.mem_append_right _ (List.mem_append_right _ (List.mem_append_right _ (List.mem_append_left _ (List.mem_of_getElem? (i := 140) rfl)))))) rfl
theorem se_Rod_luck : Cond.selects y_Rod_luck.cls y_Rod_luck y_Rod_luck ∈ vv_G := vv_Gin (List.mem_append_right _ (List.mem_append_right _ (List.mem_append_right _ (List.mem_append_right _ (List.mem_append_left _ (List.mem_of_getElem? (i := 141) rfl)))))) rfl
theorem cv_law_137 : CV R_law 137 y_Rod_luck b_Rod_luck 9 (some .int) 2 := ⟨cb_Rod_luck, im_Rod_luck, se_Rod_luck, vv_Gin (List.mem_append_right _ (List.mem_append_right _ (List.mem_append_right _ (List.mem_append_right _ (List.mem_append_left _ (List.mem_of_getElem? (i := 139) rfl)))))) rfl⟩
theorem cb_Mod_luck : CB y_Mod_luck b_Mod_luck 7 (some .int) 2 := ⟨vv_Gin (List.mem_append_right _ (List.mem_append_right _ (List.mem_append_right _ (List.mem_append_right _ (List.mem_append_right _ (List.mem_append_right _ (List.mem_of_getElem? (i := 162) rfl))))))) rfl, by decide +kernel, vv_Gin (List.mem_append_right _ (List.mem_append_left _ (List.mem_of_getElem? (i := 13) rfl))) rfl⟩
theorem im_Mod_luck : Cond.instanceMethod y_Mod_luck ∈ vv_G := vv_Gin (List.mem_append_right _ (List.mem_append_right _ (List.mem_append_right _ (List.mem_append_right _ (List.mem_append_right _ (List.mem_append_right _ (List.mem_of_getElem? (i := 160) rfl))))))) rfl
theorem se_Mod_luck : Cond.selects y_Mod_luck.cls y_Mod_luck y_Mod_luck ∈ vv_G := vv_Gin (List.mem_append_right _ (List.mem_append_right _ (List.mem_append_right _ (List.mem_append_right _ (List.mem_append_right _ (List.mem_append_right _ (List.mem_of_getElem? (i := 161) rfl))))))) rfl
theorem cv_law_140 : CV R_law 140 y_Mod_luck b_Mod_luck 7 (some .int) 2 := ⟨cb_Mod_luck, im_Mod_luck, se_Mod_luck, vv_Gin (List.mem_append_right _ (List.mem_append_right _ (List.mem_append_right _ (List.mem_append_right _ (List.mem_append_right _ (List.mem_append_right _ (List.mem_of_getElem? (i := 159) rfl))))))) rfl⟩
theorem cb_Rod_keep : CB y_Rod_keep b_Rod_keep 3 (some .int) 1 := ⟨vv_Gin (List.mem_append_right _ (List.mem_append_right _ (List.mem_append_right _ (List.mem_append_right _ (List.mem_append_left _ (List.mem_of_getElem? (i := 153) rfl)))))) rfl, by decide +kernel, vv_Gin (List.mem_append_right _ (List.mem_append_left _ (List.mem_of_getElem? (i := 1) rfl))) rfl⟩
theorem im_Rod_keep : Cond.instanceMethod y_Rod_keep ∈ vv_G := vv_Gin (List.mem_append_right _ (List.mem_append_right _ (List.mem_append_right _ (List.mem_append_right _ (List.mem_append_left _ (List.mem_of_getElem? (i := 151) rfl)))))) rfl
theorem se_Rod_keep : Cond.selects y_Rod_keep.cls y_Rod_keep y_Rod_keep ∈ vv_G := vv_Gin (List.mem_append_right _ (List.mem_append_right _ (List.mem_append_right _ (List.mem_append_right _ (List.mem_append_left _ (List.mem_of_getElem? (i := 152) rfl)))))) rfl
theorem cv_law_141 : CV R_law 141 y_Rod_keep b_Rod_keep 3 (some .int) 1 := ⟨cb_Rod_keep, im_Rod_keep, se_Rod_keep, vv_Gin (List.mem_append_right _ (List.mem_append_right _ (List.mem_append_right _ (List.mem_append_right _ (List.mem_append_left _ (List.mem_of_getElem? (i := 150) rfl)))))) rfl⟩
theorem cb_Mod_keep : CB y_Mod_keep b_Mod_keep 3 (some .int) 1 := ⟨vv_Gin (List.mem_append_right _ (List.mem_append_right _ (List.mem_append_right _ (List.mem_append_right _ (List.mem_append_right _ (List.mem_append_right _ (List.mem_of_getElem? (i := 168) rfl))))))) rfl, by decide +kernel, vv_Gin (List.mem_append_right _ (List.mem_append_left _ (List.mem_of_getElem? (i := 13) rfl))) rfl⟩
theorem im_Mod_keep : Cond.instanceMethod y_Mod_keep ∈ vv_G := vv_Gin (List.mem_append_right _ (List.mem_append_right _ (List.mem_append_right _ (List.mem_append_right _ (List.mem_append_right _ (List.mem_append_right _ (List.mem_of_getElem? (i := 166) rfl))))))) rfl
theorem se_Mod_keep : Cond.selects y_Mod_keep.cls y_Mod_keep y_Mod_keep ∈ vv_G := vv_Gin (List.mem_append_right _ (List.mem_append_right _ (List.mem_append_right _ (List.mem_append_right _ (List.mem_append_right _ (List.mem_append_right _ (List.mem_of_getElem? (i := 167) rfl))))))) rfl
theorem cv_law_144 : CV R_law 144 y_Mod_keep b_Mod_keep 3 (some .int) 1 := ⟨cb_Mod_keep, im_Mod_keep, se_Mod_keep, vv_Gin (List.mem_append_right _ (List.mem_append_right _ (List.mem_append_right _ (List.mem_append_right _ (List.mem_append_right _ (List.mem_append_right _ (List.mem_of_getElem? (i := 165) rfl))))))) rfl⟩
theorem cb_Rod_back : CB y_Rod_back b_Rod_back 2 (some .int) 1 := ⟨vv_Gin (List.mem_append_right _ (List.mem_append_right _ (List.mem_append_right _ (List.mem_append_right _ (List.mem_append_left _ (List.mem_of_getElem? (i := 157) rfl)))))) rfl, by decide +kernel, vv_Gin (List.mem_append_right _ (List.mem_append_left _ (List.mem_of_getElem? (i := 1) rfl))) rfl⟩
theorem im_Rod_back : Cond.instanceMethod y_Rod_back ∈ vv_G := vv_Gin (List.mem_append_right _ (List.mem_append_right _ (List.mem_append_right _ (List.mem_append_right _ (List.mem_append_left _ (List.mem_of_getElem? (i := 155) rfl)))))) rfl
theorem se_Rod_back : Cond.selects y_Rod_back.cls y_Rod_back y_Rod_back ∈ vv_G := vv_Gin (List.mem_append_right _ (List.mem_append_right _ (List.mem_append_right _ (List.mem_append_right _ (List.mem_append_left _ (List.mem_of_getElem? (i := 156) rfl)))))) rfl
theorem cv_law_145 : CV R_law 145 y_Rod_back b_Rod_back 2 (some .int) 1 := ⟨cb_Rod_back, im_Rod_back, se_Rod_back, vv_Gin (List.mem_append_right _ (List.mem_append_right _ (List.mem_append_right _ (List.mem_append_right _ (List.mem_append_left _ (List.mem_of_getElem? (i := 154) rfl)))))) rfl⟩
theorem cb_Mod_back : CB y_Mod_back b_Mod_back 2 (some .int) 1 := ⟨vv_Gin (List.mem_append_right _ (List.mem_append_right _ (List.mem_append_right _ (List.mem_append_right _ (List.mem_append_right _ (List.mem_append_right _ (List.mem_of_getElem? (i := 176) rfl))))))) rfl, by decide +kernel, vv_Gin (List.mem_append_right _ (List.mem_append_left _ (List.mem_of_getElem? (i := 13) rfl))) rfl⟩
theorem im_Mod_back : Cond.instanceMethod y_Mod_back ∈ vv_G := vv_Gin (List.mem_append_right _ (List.mem_append_right _ (List.mem_append_right _ (List.mem_append_right _ (List.mem_append_right _ (List.mem_append_right _ (List.mem_of_getElem? (i := 174) rfl))))))) rfl
theorem se_Mod_back : Cond.selects y_Mod_back.cls y_Mod_back y_Mod_back ∈ vv_G := vv_Gin (List.mem_append_right _ (List.mem_append_right _ (List.mem_append_right _ (List.mem_append_right _ (List.mem_append_right _ (List.mem_append_right _ (List.mem_of_getElem? (i := 175) rfl))))))) rfl
theorem cv_law_148 : CV R_law 148 y_Mod_back b_Mod_back 2 (some .int) 1 := ⟨cb_Mod_back, im_Mod_back, se_Mod_back, vv_Gin (List.mem_append_right _ (List.mem_append_right _ (List.mem_append_right _ (List.mem_append_right _ (List.mem_append_right _ (List.mem_append_right _ (List.mem_of_getElem? (i := 173) rfl))))))) rfl⟩
theorem cb_Rod_sheet : CB y_Rod_sheet b_Rod_sheet 4 (some .int) 3 := ⟨vv_Gin (List.mem_append_right _ (List.mem_append_right _ (List.mem_append_right _ (List.mem_append_right _ (List.mem_append_left _ (List.mem_of_getElem? (i := 161) rfl)))))) rfl, by decide +kernel, vv_Gin (List.mem_append_right _ (List.mem_append_left _ (List.mem_of_getElem? (i := 1) rfl))) rfl⟩
theorem im_Rod_sheet : Cond.instanceMethod y_Rod_sheet ∈ vv_G := vv_Gin (List.mem_append_right _ (List.mem_append_right _ (List.mem_append_right _ (List.mem_append_right _ (List.mem_append_left _ (List.mem_of_getElem? (i := 159) rfl)))))) rfl
theorem se_Rod_sheet : Cond.selects y_Rod_sheet.cls y_Rod_sheet y_Rod_sheet ∈ vv_G := vv_Gin (List.mem_append_right _ (List.mem_append_right _ (List.mem_append_right _ (List.mem_append_right _ (List.mem_append_left _ (List.mem_of_getElem? (i := 160) rfl)))))) rfl
theorem cv_law_149 : CV R_law 149 y_Rod_sheet b_Rod_sheet 4 (some .int) 3 := ⟨cb_Rod_sheet, im_Rod_sheet, se_Rod_sheet, vv_Gin (List.mem_append_right _ (List.mem_append_right _ (List.mem_append_right _ (List.mem_append_right _ (List.mem_append_left _ (List.mem_of_getElem? (i := 158) rfl)))))) rfl⟩
theorem cb_Mod_sheet : CB y_Mod_sheet b_Mod_sheet 5 (some .int) 3 := ⟨vv_Gin (List.mem_append_right _ (List.mem_append_right _ (List.mem_append_right _ (List.mem_append_right _ (List.mem_append_right _ (List.mem_append_right _ (List.mem_of_getElem? (i := 180) rfl))))))) rfl, by decide +kernel, vv_Gin (List.mem_append_right _ (List.mem_append_left _ (List.mem_of_getElem? (i := 13) rfl))) rfl⟩
theorem im_Mod_sheet : Cond.instanceMethod y_Mod_sheet ∈ vv_G := vv_Gin (List.mem_append_right _ (List.mem_append_right _ (List.mem_append_right _ (List.mem_append_right _ (List.mem_append_right _ (List.mem_append_right _ (List.mem_of_getElem? (i := 178) rfl))))))) rfl
theorem se_Mod_sheet : Cond.selects y_Mod_sheet.cls y_Mod_sheet y_Mod_sheet ∈ vv_G := vv_Gin (List.mem_append_right _ (List.mem_append_right _ (List.mem_append_right _ (List.mem_append_right _ (List.mem_append_right _ (List.mem_append_right _ (List.mem_of_getElem? (i := 179) rfl))))))) rfl
theorem cv_law_152 : CV R_law 152 y_Mod_sheet b_Mod_sheet 5 (some .int) 3 := ⟨cb_Mod_sheet, im_Mod_sheet, se_Mod_sheet, vv_Gin (List.mem_append_right _ (List.mem_append_right _ (List.mem_append_right _ (List.mem_append_right _ (List.mem_append_right _ (List.mem_append_right _ (List.mem_of_getElem? (i := 177) rfl))))))) rfl⟩
theorem cb_Rod_lay : CB y_Rod_lay b_Rod_lay 5 (some .int) 3 := ⟨vv_Gin (List.mem_append_right _ (List.mem_append_right _ (List.mem_append_right _ (List.mem_append_right _ (List.mem_append_left _ (List.mem_of_getElem? (i := 176) rfl)))))) rfl, by decide +kernel, vv_Gin (List.mem_append_right _ (List.mem_append_left _ (List.mem_of_getElem? (i := 1) rfl))) rfl⟩
theorem im_Rod_lay : Cond.instanceMethod y_Rod_lay ∈ vv_G := vv_Gin (List.mem_append_right _ (List.mem_append_right _ (List.mem_append_right _ (List.mem_append_right _ (List.mem_append_left _ (List.mem_of_getElem? (i := 174) rfl)))))) rfl
theorem se_Rod_lay : Cond.selects y_Rod_lay.cls y_Rod_lay y_Rod_lay ∈ vv_G := vv_Gin (List.mem_append_right _ (List.mem_append_right _ (List.mem_append_right _ (List.mem_append_right _ (List.mem_append_left _ (List.mem_of_getElem? (i := 175) rfl)))))) rfl
theorem cv_law_153 : CV R_law 153 y_Rod_lay b_Rod_lay 5 (some .int) 3 := ⟨cb_Rod_lay, im_Rod_lay, se_Rod_lay, vv_Gin (List.mem_append_right _ (List.mem_append_right _ (List.mem_append_right _ (List.mem_append_right _ (List.mem_append_left _ (List.mem_of_getElem? (i := 173) rfl)))))) rfl⟩
theorem cb_Mod_lay : CB y_Mod_lay b_Mod_lay 4 (some .int) 3 := ⟨vv_Gin (List.mem_append_right _ (List.mem_append_right _ (List.mem_append_right _ (List.mem_append_right _ (List.mem_append_right _ (List.mem_append_right _ (List.mem_of_getElem? (i := 188) rfl))))))) rfl, by decide +kernel, vv_Gin (List.mem_append_right _ (List.mem_append_left _ (List.mem_of_getElem? (i := 13) rfl))) rfl⟩
theorem im_Mod_lay : Cond.instanceMethod y_Mod_lay ∈ vv_G := vv_Gin (List.mem_append_right _ (List.mem_append_right _ (List.mem_append_right _ (List.mem_append_right _ (List.mem_append_right _ (List.mem_append_right _ (List.mem_of_getElem? (i := 186) rfl))))))) rfl
theorem se_Mod_lay : Cond.selects y_Mod_lay.cls y_Mod_lay y_Mod_lay ∈ vv_G := vv_Gin (List.mem_append_right _ (List.mem_append_right _ (List.mem_append_right _ (List.mem_append_right _ (List.mem_append_right _ (List.mem_append_right _ (List.mem_of_getElem? (i := 187) rfl))))))) rfl
theorem cv_law_156 : CV R_law 156 y_Mod_lay b_Mod_lay 4 (some .int) 3 := ⟨cb_Mod_lay, im_Mod_lay, se_Mod_lay, vv_Gin (List.mem_append_right _ (List.mem_append_right _ (List.mem_append_right _ (List.mem_append_right _ (List.mem_append_right _ (List.mem_append_right _ (List.mem_of_getElem? (i := 185) rfl))))))) rfl⟩
theorem cb_Rod_read : CB y_Rod_read b_Rod_read 9 (some .int) 4 := ⟨vv_Gin (List.mem_append_right _ (List.mem_append_right _ (List.mem_append_right _ (List.mem_append_right _ (List.mem_append_left _ (List.mem_of_getElem? (i := 184) rfl)))))) rfl, by decide +kernel, vv_Gin (List.mem_append_right _ (List.mem_append_left _ (List.mem_of_getElem? (i := 1) rfl))) rfl⟩
theorem im_Rod_read : Cond.instanceMethod y_Rod_read ∈ vv_G := vv_Gin (List.mem_append_right _ (List.mem_append_right _ (List.mem_append_right _ (List.mem_append_right _ (List.mem_append_left _ (List.mem_of_getElem? (i := 182) rfl)))))) rfl
theorem se_Rod_read : Cond.selects y_Rod_read.cls y_Rod_read y_Rod_read ∈ vv_G := vv_Gin (List.mem_append_right _ (List.mem_append_right _ (List.mem_append_right _ (List.mem_append_right _ (List.mem_append_left _ (List.mem_of_getElem? (i := 183) rfl)))))) rfl
theorem cv_law_157 : CV R_law 157 y_Rod_read b_Rod_read 9 (some .int) 4 := ⟨cb_Rod_read, im_Rod_read, se_Rod_read, vv_Gin (List.mem_append_right _ (List.mem_append_right _ (List.mem_append_right _ (List.mem_append_right _ (List.mem_append_left _ (List.mem_of_getElem? (i := 181) rfl)))))) rfl⟩
theorem cb_Mod_read : CB y_Mod_read b_Mod_read 11 (some .int) 4 := ⟨vv_Gin (List.mem_append_right _ (List.mem_append_right _ (List.mem_append_right _ (List.mem_append_right _ (List.mem_append_right _ (List.mem_append_right _ (List.mem_of_getElem? (i := 192) rfl))))))) rfl, by decide +kernel, vv_Gin (List.mem_append_right _ (List.mem_append_left _ (List.mem_of_getElem? (i := 13) rfl))) rfl⟩
theorem im_Mod_read : Cond.instanceMethod y_Mod_read ∈ vv_G := vv_Gin (List.mem_append_right _ (List.mem_append_right _ (List.mem_append_right _ (List.mem_append_right _ (List.mem_append_right _ (List.mem_append_right _ (List.mem_of_getElem? (i := 190) rfl))))))) rfl
theorem se_Mod_read : Cond.selects y_Mod_read.cls y_Mod_read y_Mod_read ∈ vv_G := vv_Gin (List.mem_append_right _ (List.mem_append_right _ (List.mem_append_right _ (List.mem_append_right _ (List.mem_append_right _ (List.mem_append_right _ (List.mem_of_getElem? (i := 191) rfl))))))) rfl
theorem cv_law_160 : CV R_law 160 y_Mod_read b_Mod_read 11 (some .int) 4 := ⟨cb_Mod_read, im_Mod_read, se_Mod_read, vv_Gin (List.mem_append_right _ (List.mem_append_right _ (List.mem_append_right _ (List.mem_append_right _ (List.mem_append_right _ (List.mem_append_right _ (List.mem_of_getElem? (i := 189) rfl))))))) rfl⟩
theorem cb_Rod_torn : CB y_Rod_torn b_Rod_torn 1 (some .int) 0 := ⟨vv_Gin (List.mem_append_right _ (List.mem_append_right _ (List.mem_append_right _ (List.mem_append_right _ (List.mem_append_left _ (List.mem_of_getElem? (i := 199) rfl)))))) rfl, by decide +kernel, vv_Gin (List.mem_append_right _ (List.mem_append_left _ (List.mem_of_getElem? (i := 1) rfl))) rfl⟩
theorem im_Rod_torn : Cond.instanceMethod y_Rod_torn ∈ vv_G := vv_Gin (List.mem_append_right _ (List.mem_append_right _ (List.mem_append_right _ (List.mem_append_right _ (List.mem_append_left _ (List.mem_of_getElem? (i := 197) rfl)))))) rfl
theorem se_Rod_torn : Cond.selects y_Rod_torn.cls y_Rod_torn y_Rod_torn ∈ vv_G := vv_Gin (List.mem_append_right _ (List.mem_append_right _ (List.mem_append_right _ (List.mem_append_right _ (List.mem_append_left _ (List.mem_of_getElem? (i := 198) rfl)))))) rfl
theorem cv_law_161 : CV R_law 161 y_Rod_torn b_Rod_torn 1 (some .int) 0 := ⟨cb_Rod_torn, im_Rod_torn, se_Rod_torn, vv_Gin (List.mem_append_right _ (List.mem_append_right _ (List.mem_append_right _ (List.mem_append_right _ (List.mem_append_left _ (List.mem_of_getElem? (i := 196) rfl)))))) rfl⟩
theorem cb_Mod_torn : CB y_Mod_torn b_Mod_torn 1 (some .int) 0 := ⟨vv_Gin (List.mem_append_right _ (List.mem_append_right _ (List.mem_append_right _ (List.mem_append_right _ (List.mem_append_right _ (List.mem_append_right _ (List.mem_of_getElem? (i := 197) rfl))))))) rfl, by decide +kernel, vv_Gin (List.mem_append_right _ (List.mem_append_left _ (List.mem_of_getElem? (i := 13) rfl))) rfl⟩
theorem im_Mod_torn : Cond.instanceMethod y_Mod_torn ∈ vv_G := vv_Gin (List.mem_append_right _ (List.mem_append_right _ (List.mem_append_right _ (List.mem_append_right _ (List.mem_append_right _ (List.mem_append_right _ (List.mem_of_getElem? (i := 195) rfl))))))) rfl
theorem se_Mod_torn : Cond.selects y_Mod_torn.cls y_Mod_torn y_Mod_torn ∈ vv_G := vv_Gin (List.mem_append_right _ (List.mem_append_right _ (List.mem_append_right _ (List.mem_append_right _ (List.mem_append_right _ (List.mem_append_right _ (List.mem_of_getElem? (i := 196) rfl))))))) rfl
theorem cv_law_164 : CV R_law 164 y_Mod_torn b_Mod_torn 1 (some .int) 0 := ⟨cb_Mod_torn, im_Mod_torn, se_Mod_torn, vv_Gin (List.mem_append_right _ (List.mem_append_right _ (List.mem_append_right _ (List.mem_append_right _ (List.mem_append_right _ (List.mem_append_right _ (List.mem_of_getElem? (i := 194) rfl))))))) rfl⟩
theorem cb_Rod_count : CB y_Rod_count b_Rod_count 2 (some .int) 1 := ⟨vv_Gin (List.mem_append_right _ (List.mem_append_right _ (List.mem_append_right _ (List.mem_append_right _ (List.mem_append_left _ (List.mem_of_getElem? (i := 203) rfl)))))) rfl, by decide +kernel, vv_Gin (List.mem_append_right _ (List.mem_append_left _ (List.mem_of_getElem? (i := 1) rfl))) rfl⟩
theorem im_Rod_count : Cond.instanceMethod y_Rod_count ∈ vv_G := vv_Gin (List.mem_append_right _ (List.mem_append_right _ (List.mem_append_right _ (List.mem_append_right _ (List.mem_append_left _ (List.mem_of_getElem? (i := 201) rfl)))))) rfl
theorem se_Rod_count : Cond.selects y_Rod_count.cls y_Rod_count y_Rod_count ∈ vv_G := vv_Gin (List.mem_append_right _ (List.mem_append_right _ (List.mem_append_right _ (List.mem_append_right _ (List.mem_append_left _ (List.mem_of_getElem? (i := 202) rfl)))))) rfl
theorem cv_law_165 : CV R_law 165 y_Rod_count b_Rod_count 2 (some .int) 1 := ⟨cb_Rod_count, im_Rod_count, se_Rod_count, vv_Gin (List.mem_append_right _ (List.mem_append_right _ (List.mem_append_right _ (List.mem_append_right _ (List.mem_append_left _ (List.mem_of_getElem? (i := 200) rfl)))))) rfl⟩
theorem cb_Mod_count : CB y_Mod_count b_Mod_count 5 (some .int) 1 := ⟨vv_Gin (List.mem_append_right _ (List.mem_append_right _ (List.mem_append_right _ (List.mem_append_right _ (List.mem_append_right _ (List.mem_append_right _ (List.mem_of_getElem? (i := 201) rfl))))))) rfl, by decide +kernel, vv_Gin (List.mem_append_right _ (List.mem_append_left _ (List.mem_of_getElem? (i := 13) rfl))) rfl⟩
theorem im_Mod_count : Cond.instanceMethod y_Mod_count ∈ vv_G := vv_Gin (List.mem_append_right _ (List.mem_append_right _ (List.mem_append_right _ (List.mem_append_right _ (List.mem_append_right _ (List.mem_append_right _ (List.mem_of_getElem? (i := 199) rfl))))))) rfl
theorem se_Mod_count : Cond.selects y_Mod_count.cls y_Mod_count y_Mod_count ∈ vv_G := vv_Gin (List.mem_append_right _ (List.mem_append_right _ (List.mem_append_right _ (List.mem_append_right _ (List.mem_append_right _ (List.mem_append_right _ (List.mem_of_getElem? (i := 200) rfl))))))) rfl
theorem cv_law_168 : CV R_law 168 y_Mod_count b_Mod_count 5 (some .int) 1 := ⟨cb_Mod_count, im_Mod_count, se_Mod_count, vv_Gin (List.mem_append_right _ (List.mem_append_right _ (List.mem_append_right _ (List.mem_append_right _ (List.mem_append_right _ (List.mem_append_right _ (List.mem_of_getElem? (i := 198) rfl))))))) rfl⟩
theorem law_0 {b0 Ls : Nat} {xs : Nat → Int32} {h : Hp} {i : Int32} {I : Nat} (hL2 : Ls ≤ 320) (hi : i.toInt = I) (hL : I + 5 ≤ Ls) (hJ : J h) (K : ∀ h' : Hp, J h' → ZW b0 Ls xs h' 1359 (LZ i) []) : ZW b0 Ls xs h 196 (LZ i) [] := by
  have hI : Inv h := hJ.1
  refine Z_aload_n 1 dl_196 rfl rfl ?_
  refine Z_arg 1 (by decide) hi hL hL2 dl_197 dl_198 dl_199 dl_200 dl_201 ?_
  refine Z_call [.int (xs (I + 1))] [] cv_law_13 sk_85 rfl dl_202 rfl (Nat.le_of_ble_eq_true rfl) (by decide) (by decide) (c_Rod_feedX h hI _ _ rfl _ _ rfl rfl) (fun _ h1 hq => ?_)
  obtain ⟨r1, rfl, h1I, h1f⟩ := hq
  refine Z_pop dl_205 rfl ?_
  refine Z_aload_n 2 dl_206 rfl rfl ?_
  refine Z_arg 1 (by decide) hi hL hL2 dl_207 dl_208 dl_209 dl_210 dl_211 ?_
  refine Z_call [.int (xs (I + 1))] [] cv_law_17 sk_116 rfl dl_212 rfl (Nat.le_of_ble_eq_true rfl) (by decide) (by decide) (c_Mod_feedX h1 h1I _ _ rfl _ _ rfl rfl) (fun _ h2 hq => ?_)
  obtain ⟨r2, rfl, h2I, h2f⟩ := hq
  refine Z_pop dl_215 rfl ?_
  refine Z_goto 1359 dl_216 (by decide) ?_
  obtain ⟨g1, u1, u1Z, u1E, u1K, u1C⟩ := h1f
  obtain ⟨g2, u2, u2Z, u2E, u2K, u2C⟩ := h2f
  have hs := (hI 89 1).1
  have hT := JT_feed hJ.2.1 g1 g2 rfl rfl (fun _ => rfl) (fun _ => rfl) rfl rfl ⟨rfl, rfl⟩ ⟨rfl, rfl⟩ rfl u1E u1K u2E u2K u1C u2C hs
  exact K h2 ⟨h2I, hT, (JA_fr g2 rfl (JA_fr g1 rfl hJ.2.2.1)), (JB_fr g2 rfl (JB_fr g1 rfl hJ.2.2.2.1)), (JS_fr g2 rfl (JS_fr g1 rfl hJ.2.2.2.2))⟩
theorem law_1 {b0 Ls : Nat} {xs : Nat → Int32} {h : Hp} {i : Int32} {I : Nat} (hL2 : Ls ≤ 320) (hi : i.toInt = I) (hL : I + 5 ≤ Ls) (hJ : J h) (K : ∀ h' : Hp, J h' → ZW b0 Ls xs h' 1359 (LZ i) []) : ZW b0 Ls xs h 219 (LZ i) [] := by
  have hI : Inv h := hJ.1
  refine Z_aload_n 1 dl_219 rfl rfl ?_
  refine Z_arg 1 (by decide) hi hL hL2 dl_220 dl_221 dl_222 dl_223 dl_224 ?_
  refine Z_call [.int (xs (I + 1))] [] cv_law_18 sk_85 rfl dl_225 rfl (Nat.le_of_ble_eq_true rfl) (by decide) (by decide) (c_Rod_end h hI _ _ rfl _ _ rfl rfl) (fun _ h1 hq => ?_)
  obtain ⟨r1, rfl, h1I, h1f⟩ := hq
  refine Z_pop dl_228 rfl ?_
  refine Z_aload_n 2 dl_229 rfl rfl ?_
  refine Z_arg 1 (by decide) hi hL hL2 dl_230 dl_231 dl_232 dl_233 dl_234 ?_
  refine Z_call [.int (xs (I + 1))] [] cv_law_21 sk_116 rfl dl_235 rfl (Nat.le_of_ble_eq_true rfl) (by decide) (by decide) (c_Mod_end h1 h1I _ _ rfl _ _ rfl rfl) (fun _ h2 hq => ?_)
  obtain ⟨r2, rfl, h2I, h2f⟩ := hq
  refine Z_pop dl_238 rfl ?_
  refine Z_goto 1359 dl_239 (by decide) ?_
  obtain ⟨g1, u1, u1Z, u1E, u1K, u1C⟩ := h1f
  obtain ⟨g2, u2, u2Z, u2E, u2K, u2C⟩ := h2f
  have hT := JT_end (nZ := (xs (I + 1)).toInt) hJ.2.1 g1 g2 (fun k i hk hn => end_S1 hk hn) (fun k i hk hn => end_S2 hk hn) u1E u1K u2E u2K (by (first | decide +kernel | omega)) (by (first | decide +kernel | omega))
  exact K h2 ⟨h2I, hT, (JA_fr g2 rfl (JA_fr g1 rfl hJ.2.2.1)), (JB_fr g2 rfl (JB_fr g1 rfl hJ.2.2.2.1)), (JS_fr g2 rfl (JS_fr g1 rfl hJ.2.2.2.2))⟩
theorem law_2 {b0 Ls : Nat} {xs : Nat → Int32} {h : Hp} {i : Int32} {I : Nat} (hL2 : Ls ≤ 320) (hi : i.toInt = I) (hL : I + 5 ≤ Ls) (hJ : J h) (K : ∀ h' : Hp, J h' → ZW b0 Ls xs h' 1359 (LZ i) []) : ZW b0 Ls xs h 242 (LZ i) [] := by
  have hI : Inv h := hJ.1
  refine Z_aload_n 1 dl_242 rfl rfl ?_
  refine Z_call [] [] cv_law_22 sk_85 rfl dl_243 rfl (Nat.le_of_ble_eq_true rfl) (by decide) (by decide) (c_Rod_textY h (tb h) hI _ _ rfl rfl (TP_c hJ.2.1)) (fun _ h1 hq => ?_)
  obtain ⟨r1, rfl, h1I, h1f⟩ := hq
  refine Z_pop dl_246 rfl ?_
  refine Z_aload_n 2 dl_247 rfl rfl ?_
  refine Z_call [] [] cv_law_26 sk_116 rfl dl_248 rfl (Nat.le_of_ble_eq_true rfl) (by decide) (by decide) (c_Mod_textX h1 (tb h) h1I _ _ rfl rfl (TP_m hJ.2.1 h1f.1 (fun _ => rfl) rfl)) (fun _ h2 hq => ?_)
  obtain ⟨r2, rfl, h2I, h2f⟩ := hq
  refine Z_pop dl_251 rfl ?_
  refine Z_goto 1359 dl_252 (by decide) ?_
  obtain ⟨g1, v1, v1Z, v1E, v1K, w1, w1Z, w1E, w1K, v10, n1, X1, K1⟩ := h1f
  obtain ⟨g2, v2, v2Z, v2E, v2K, w2, w2Z, w2E, w2K, v20, n2, X2, K2⟩ := h2f
  have hT := JT_text hJ.2.1 g1 g2 rfl rfl rfl v1E v1K v10 w1E w1K X1 v2E v2K v20 w2E w2K X2
  have X3 := X2
  rw [g1.1 116 15 rfl, ← hJ.2.1.1] at X3
  have hA := JA_text hJ.2.2.1 g1 g2 X1 X3 K1 K2 rfl rfl rfl
  have hB := JB_text hJ.2.2.2.1 g1 g2 X1 X3 K1 K2 rfl rfl rfl rfl
  exact K h2 ⟨h2I, hT.1, hA, hB, (JS_fr g2 rfl (JS_fr g1 rfl hJ.2.2.2.2))⟩
theorem law_3 {b0 Ls : Nat} {xs : Nat → Int32} {h : Hp} {i : Int32} {I : Nat} (hL2 : Ls ≤ 320) (hi : i.toInt = I) (hL : I + 5 ≤ Ls) (hJ : J h) (K : ∀ h' : Hp, J h' → ZW b0 Ls xs h' 1359 (LZ i) []) : ZW b0 Ls xs h 255 (LZ i) [] := by
  have hI : Inv h := hJ.1
  refine Z_aload_n 1 dl_255 rfl rfl ?_
  refine Z_call [] [] cv_law_27 sk_85 rfl dl_256 rfl (Nat.le_of_ble_eq_true rfl) (by decide) (by decide) (c_Rod_faultX h hI) (fun _ h1 hq => ?_)
  obtain ⟨r1, rfl, r1e⟩ := hq
  obtain ⟨rfl, r1E⟩ := r1e
  refine Z_pop dl_259 rfl ?_
  refine Z_aload_n 2 dl_260 rfl rfl ?_
  refine Z_call [] [] cv_law_30 sk_116 rfl dl_261 rfl (Nat.le_of_ble_eq_true rfl) (by decide) (by decide) (c_Mod_faultX h hI) (fun _ h2 hq => ?_)
  obtain ⟨r2, rfl, r2e⟩ := hq
  obtain ⟨rfl, r2E⟩ := r2e
  refine Z_pop dl_264 rfl ?_
  refine Z_goto 1359 dl_265 (by decide) ?_
  exact K h ⟨hI, hJ.2.1, hJ.2.2.1, hJ.2.2.2.1, hJ.2.2.2.2⟩
theorem law_4 {b0 Ls : Nat} {xs : Nat → Int32} {h : Hp} {i : Int32} {I : Nat} (hL2 : Ls ≤ 320) (hi : i.toInt = I) (hL : I + 5 ≤ Ls) (hJ : J h) (K : ∀ h' : Hp, J h' → ZW b0 Ls xs h' 1359 (LZ i) []) : ZW b0 Ls xs h 268 (LZ i) [] := by
  have hI : Inv h := hJ.1
  refine Z_aload_n 1 dl_268 rfl rfl ?_
  refine Z_arg 1 (by decide) hi hL hL2 dl_269 dl_270 dl_271 dl_272 dl_273 ?_
  refine Z_call [.int (xs (I + 1))] [] cv_law_31 sk_85 rfl dl_274 rfl (Nat.le_of_ble_eq_true rfl) (by decide) (by decide) (c_Rod_ruleX h hI _ _ rfl _ _ rfl rfl _ _ rfl rfl _ _ rfl rfl _ _ rfl rfl _ _ rfl rfl _ _ rfl rfl _ _ rfl rfl) (fun _ h1 hq => ?_)
  obtain ⟨r1, rfl, r1e⟩ := hq
  obtain ⟨rfl, r1E⟩ := r1e
  refine Z_pop dl_277 rfl ?_
  refine Z_aload_n 2 dl_278 rfl rfl ?_
  refine Z_arg 1 (by decide) hi hL hL2 dl_279 dl_280 dl_281 dl_282 dl_283 ?_
  refine Z_call [.int (xs (I + 1))] [] cv_law_34 sk_116 rfl dl_284 rfl (Nat.le_of_ble_eq_true rfl) (by decide) (by decide) (c_Mod_ruleX h hI _ _ rfl _ _ rfl rfl _ _ rfl rfl _ _ rfl rfl _ _ rfl rfl _ _ rfl rfl _ _ rfl rfl _ _ rfl rfl) (fun _ h2 hq => ?_)
  obtain ⟨r2, rfl, r2e⟩ := hq
  obtain ⟨rfl, r2E⟩ := r2e
  refine Z_pop dl_287 rfl ?_
  refine Z_goto 1359 dl_288 (by decide) ?_
  exact K h ⟨hI, hJ.2.1, hJ.2.2.1, hJ.2.2.2.1, hJ.2.2.2.2⟩
theorem law_5 {b0 Ls : Nat} {xs : Nat → Int32} {h : Hp} {i : Int32} {I : Nat} (hL2 : Ls ≤ 320) (hi : i.toInt = I) (hL : I + 5 ≤ Ls) (hJ : J h) (K : ∀ h' : Hp, J h' → ZW b0 Ls xs h' 1359 (LZ i) []) : ZW b0 Ls xs h 291 (LZ i) [] := by
  have hI : Inv h := hJ.1
  refine Z_aload_n 1 dl_291 rfl rfl ?_
  refine Z_arg 1 (by decide) hi hL hL2 dl_292 dl_293 dl_294 dl_295 dl_296 ?_
  refine Z_arg 2 (by decide) hi hL hL2 dl_297 dl_298 dl_299 dl_300 dl_301 ?_
  refine Z_call [.int (xs (I + 1)), .int (xs (I + 2))] [] cv_law_35 sk_85 rfl dl_302 rfl (Nat.le_of_ble_eq_true rfl) (by decide) (by decide) (c_Rod_cellX h hI _ _ rfl _ _ rfl _ _ rfl rfl _ _ rfl rfl) (fun _ h1 hq => ?_)
  obtain ⟨r1, rfl, r1e⟩ := hq
  obtain ⟨rfl, r1E⟩ := r1e
  refine Z_pop dl_305 rfl ?_
  refine Z_aload_n 2 dl_306 rfl rfl ?_
  refine Z_arg 1 (by decide) hi hL hL2 dl_307 dl_308 dl_309 dl_310 dl_311 ?_
  refine Z_arg 2 (by decide) hi hL hL2 dl_312 dl_313 dl_314 dl_315 dl_316 ?_
  refine Z_call [.int (xs (I + 1)), .int (xs (I + 2))] [] cv_law_39 sk_116 rfl dl_317 rfl (Nat.le_of_ble_eq_true rfl) (by decide) (by decide) (c_Mod_cellX h hI _ _ rfl _ _ rfl _ _ rfl rfl _ _ rfl rfl) (fun _ h2 hq => ?_)
  obtain ⟨r2, rfl, r2e⟩ := hq
  obtain ⟨rfl, r2E⟩ := r2e
  refine Z_pop dl_320 rfl ?_
  refine Z_goto 1359 dl_321 (by decide) ?_
  exact K h ⟨hI, hJ.2.1, hJ.2.2.1, hJ.2.2.2.1, hJ.2.2.2.2⟩
theorem law_6 {b0 Ls : Nat} {xs : Nat → Int32} {h : Hp} {i : Int32} {I : Nat} (hL2 : Ls ≤ 320) (hi : i.toInt = I) (hL : I + 5 ≤ Ls) (hJ : J h) (K : ∀ h' : Hp, J h' → ZW b0 Ls xs h' 1359 (LZ i) []) : ZW b0 Ls xs h 324 (LZ i) [] := by
  have hI : Inv h := hJ.1
  refine Z_aload_n 1 dl_324 rfl rfl ?_
  refine Z_arg 1 (by decide) hi hL hL2 dl_325 dl_326 dl_327 dl_328 dl_329 ?_
  refine Z_call [.int (xs (I + 1))] [] cv_law_40 sk_85 rfl dl_330 rfl (Nat.le_of_ble_eq_true rfl) (by decide) (by decide) (c_Rod_purseX h hI _ _ rfl) (fun _ h1 hq => ?_)
  obtain ⟨r1, rfl, r1e⟩ := hq
  obtain ⟨rfl, r1E⟩ := r1e
  refine Z_aload_n 2 dl_333 rfl rfl ?_
  refine Z_arg 1 (by decide) hi hL hL2 dl_334 dl_335 dl_336 dl_337 dl_338 ?_
  refine Z_call [.int (xs (I + 1))] [.int r1] cv_law_43 sk_116 rfl dl_339 rfl (Nat.le_of_ble_eq_true rfl) (by decide) (by decide) (c_Mod_purseX h hI _ _ rfl) (fun _ h2 hq => ?_)
  obtain ⟨r2, rfl, r2e⟩ := hq
  obtain ⟨rfl, r2E⟩ := r2e
  refine Z_icmp_eq 1359 rfl rfl dl_342 (by decide) (fun _ => ?_) (fun ne => absurd ?_ ne)
  · exact K h ⟨hI, hJ.2.1, hJ.2.2.1, hJ.2.2.2.1, hJ.2.2.2.2⟩
  · rcases r1E with ⟨p1, p2⟩ | ⟨p1, p2⟩ <;> rcases r2E with ⟨q1, q2⟩ | ⟨q1, q2⟩
    · rw [p2, q2, show (80 + (xs (I + 1)).toInt).toNat = 80 + ((xs (I + 1)).toInt).toNat by (first | decide +kernel | omega), ← JB_p hJ.2.2.2.1 (i := ((xs (I + 1)).toInt).toNat) (by (first | decide +kernel | omega))]
    · exact absurd p1 q1
    · exact absurd q1 p1
    · exact p2.trans q2.symm
theorem law_7 {b0 Ls : Nat} {xs : Nat → Int32} {h : Hp} {i : Int32} {I : Nat} (hL2 : Ls ≤ 320) (hi : i.toInt = I) (hL : I + 5 ≤ Ls) (hJ : J h) (K : ∀ h' : Hp, J h' → ZW b0 Ls xs h' 1359 (LZ i) []) : ZW b0 Ls xs h 347 (LZ i) [] := by
  have hI : Inv h := hJ.1
  refine Z_aload_n 1 dl_347 rfl rfl ?_
  refine Z_arg 1 (by decide) hi hL hL2 dl_348 dl_349 dl_350 dl_351 dl_352 ?_
  refine Z_arg 2 (by decide) hi hL hL2 dl_353 dl_354 dl_355 dl_356 dl_357 ?_
  refine Z_call [.int (xs (I + 1)), .int (xs (I + 2))] [] cv_law_44 sk_85 rfl dl_358 rfl (Nat.le_of_ble_eq_true rfl) (by decide) (by decide) (c_Rod_wetX h hI _ _ rfl _ _ rfl _ _ rfl rfl _ _ rfl rfl) (fun _ h1 hq => ?_)
  obtain ⟨r1, rfl, h1I, h1f⟩ := hq
  refine Z_pop dl_361 rfl ?_
  refine Z_aload_n 2 dl_362 rfl rfl ?_
  refine Z_arg 1 (by decide) hi hL hL2 dl_363 dl_364 dl_365 dl_366 dl_367 ?_
  refine Z_arg 2 (by decide) hi hL hL2 dl_368 dl_369 dl_370 dl_371 dl_372 ?_
  refine Z_call [.int (xs (I + 1)), .int (xs (I + 2))] [] cv_law_47 sk_116 rfl dl_373 rfl (Nat.le_of_ble_eq_true rfl) (by decide) (by decide) (c_Mod_wetX h1 h1I _ _ rfl _ _ rfl _ _ rfl rfl _ _ rfl rfl) (fun _ h2 hq => ?_)
  obtain ⟨r2, rfl, h2I, h2f⟩ := hq
  refine Z_pop dl_376 rfl ?_
  refine Z_goto 1359 dl_377 (by decide) ?_
  have wg := wg16 hI
  have w0 : h1.1 116 2 = h.1 1 0 := (h1f.1.1 116 2 rfl).trans (JA_wh hJ.2.2.1 (i := 0) (by decide)).symm
  have w1 : h1.1 116 3 = h.1 1 1 := (h1f.1.1 116 3 rfl).trans (JA_wh hJ.2.2.1 (i := 1) (by decide)).symm
  have E2 := h2f.2
  rw [w0, w1] at E2
  have hB := JB_wet hJ.2.2.2.1 h1f.2 E2 (fun q => by rw [h1f.1.1 117 (64 + (xs (I + 1)).toInt).toNat rfl, show (64 + (xs (I + 1)).toInt).toNat = 64 + ((xs (I + 1)).toInt).toNat by (first | decide +kernel | omega), ← JB_b hJ.2.2.2.1 (i := ((xs (I + 1)).toInt).toNat) (by (first | decide +kernel | omega))]) (fun q => by (first | decide +kernel | omega))
  exact K h2 ⟨h2I, (JT_fr h2f.1 rfl (JT_fr h1f.1 rfl hJ.2.1)), (JA_nA h2f.1 rfl (nA_Ewt E2 (fun q => by (first | decide +kernel | omega))) (JA_fr h1f.1 rfl hJ.2.2.1)), hB.1, (JS_fr h2f.1 rfl (JS_fr h1f.1 rfl hJ.2.2.2.2))⟩
theorem law_8 {b0 Ls : Nat} {xs : Nat → Int32} {h : Hp} {i : Int32} {I : Nat} (hL2 : Ls ≤ 320) (hi : i.toInt = I) (hL : I + 5 ≤ Ls) (hJ : J h) (K : ∀ h' : Hp, J h' → ZW b0 Ls xs h' 1359 (LZ i) []) : ZW b0 Ls xs h 380 (LZ i) [] := by
  have hI : Inv h := hJ.1
  refine Z_aload_n 1 dl_380 rfl rfl ?_
  refine Z_arg 1 (by decide) hi hL hL2 dl_381 dl_382 dl_383 dl_384 dl_385 ?_
  refine Z_arg 2 (by decide) hi hL hL2 dl_386 dl_387 dl_388 dl_389 dl_390 ?_
  refine Z_bool dl_391 dl_394 dl_395 dl_398 (fun b1 b1e => ?_)
  refine Z_call [.int (xs (I + 1)), .int b1] [] cv_law_48 sk_85 rfl dl_399 rfl (Nat.le_of_ble_eq_true rfl) (by decide) (by decide) (c_Rod_ironX h hI _ _ rfl _ _ rfl _ _ rfl rfl _ _ rfl rfl) (fun _ h2 hq => ?_)
  obtain ⟨r2, rfl, h2I, h2f⟩ := hq
  refine Z_pop dl_402 rfl ?_
  refine Z_aload_n 2 dl_403 rfl rfl ?_
  refine Z_arg 1 (by decide) hi hL hL2 dl_404 dl_405 dl_406 dl_407 dl_408 ?_
  refine Z_arg 2 (by decide) hi hL hL2 dl_409 dl_410 dl_411 dl_412 dl_413 ?_
  refine Z_bool dl_414 dl_417 dl_418 dl_421 (fun b3 b3e => ?_)
  refine Z_call [.int (xs (I + 1)), .int b3] [] cv_law_52 sk_116 rfl dl_422 rfl (Nat.le_of_ble_eq_true rfl) (by decide) (by decide) (c_Mod_ironX h2 h2I _ _ rfl _ _ rfl _ _ rfl rfl _ _ rfl rfl) (fun _ h4 hq => ?_)
  obtain ⟨r4, rfl, h4I, h4f⟩ := hq
  refine Z_pop dl_425 rfl ?_
  refine Z_goto 1359 dl_426 (by decide) ?_
  obtain rfl : b3 = b1 := b3e.trans b1e.symm
  have wg := wg16 hI
  have w0 : h2.1 116 2 = h.1 1 0 := (h2f.1.1 116 2 rfl).trans (JA_wh hJ.2.2.1 (i := 0) (by decide)).symm
  have w1 : h2.1 116 3 = h.1 1 1 := (h2f.1.1 116 3 rfl).trans (JA_wh hJ.2.2.1 (i := 1) (by decide)).symm
  have E2 := h4f.2
  rw [w0, w1] at E2
  have hA := JA_row3 hI hJ.2.2.1 h2f.2 E2 (by (first | decide +kernel | omega)) (fun q => q) (fun x y p q => V_flag p q)
  exact K h4 ⟨h4I, (JT_fr h4f.1 rfl (JT_fr h2f.1 rfl hJ.2.1)), hA.1, (JB_nB h4f.1 rfl (nB_Er E2 (fun q => by (first | decide +kernel | omega))) (JB_fr h2f.1 rfl hJ.2.2.2.1)), (JS_fr h4f.1 rfl (JS_fr h2f.1 rfl hJ.2.2.2.2))⟩
theorem law_9 {b0 Ls : Nat} {xs : Nat → Int32} {h : Hp} {i : Int32} {I : Nat} (hL2 : Ls ≤ 320) (hi : i.toInt = I) (hL : I + 5 ≤ Ls) (hJ : J h) (K : ∀ h' : Hp, J h' → ZW b0 Ls xs h' 1359 (LZ i) []) : ZW b0 Ls xs h 429 (LZ i) [] := by
  have hI : Inv h := hJ.1
  refine Z_aload_n 1 dl_429 rfl rfl ?_
  refine Z_arg 1 (by decide) hi hL hL2 dl_430 dl_431 dl_432 dl_433 dl_434 ?_
  refine Z_arg 2 (by decide) hi hL hL2 dl_435 dl_436 dl_437 dl_438 dl_439 ?_
  refine Z_call [.int (xs (I + 1)), .int (xs (I + 2))] [] cv_law_53 sk_85 rfl dl_440 rfl (Nat.le_of_ble_eq_true rfl) (by decide) (by decide) (c_Rod_oddX h hI _ _ rfl _ _ rfl _ _ rfl rfl _ _ rfl rfl) (fun _ h1 hq => ?_)
  obtain ⟨r1, rfl, h1I, h1f⟩ := hq
  refine Z_pop dl_443 rfl ?_
  refine Z_aload_n 2 dl_444 rfl rfl ?_
  refine Z_arg 1 (by decide) hi hL hL2 dl_445 dl_446 dl_447 dl_448 dl_449 ?_
  refine Z_arg 2 (by decide) hi hL hL2 dl_450 dl_451 dl_452 dl_453 dl_454 ?_
  refine Z_call [.int (xs (I + 1)), .int (xs (I + 2))] [] cv_law_56 sk_116 rfl dl_455 rfl (Nat.le_of_ble_eq_true rfl) (by decide) (by decide) (c_Mod_oddX h1 h1I _ _ rfl _ _ rfl _ _ rfl rfl _ _ rfl rfl) (fun _ h2 hq => ?_)
  obtain ⟨r2, rfl, h2I, h2f⟩ := hq
  refine Z_pop dl_458 rfl ?_
  refine Z_goto 1359 dl_459 (by decide) ?_
  have wg := wg16 hI
  have w0 : h1.1 116 2 = h.1 1 0 := (h1f.1.1 116 2 rfl).trans (JA_wh hJ.2.2.1 (i := 0) (by decide)).symm
  have w1 : h1.1 116 3 = h.1 1 1 := (h1f.1.1 116 3 rfl).trans (JA_wh hJ.2.2.1 (i := 1) (by decide)).symm
  have E2 := h2f.2
  rw [w0, w1] at E2
  have hA := JA_row3 hI hJ.2.2.1 h1f.2 E2 (by (first | decide +kernel | omega)) (fun q => ⟨q.1, q.2.1⟩) (fun x y p q => p.trans q.symm)
  exact K h2 ⟨h2I, (JT_fr h2f.1 rfl (JT_fr h1f.1 rfl hJ.2.1)), hA.1, (JB_nB h2f.1 rfl (nB_Er E2 (fun q => by (first | decide +kernel | omega))) (JB_fr h1f.1 rfl hJ.2.2.2.1)), (JS_fr h2f.1 rfl (JS_fr h1f.1 rfl hJ.2.2.2.2))⟩
theorem law_10 {b0 Ls : Nat} {xs : Nat → Int32} {h : Hp} {i : Int32} {I : Nat} (hL2 : Ls ≤ 320) (hi : i.toInt = I) (hL : I + 5 ≤ Ls) (hJ : J h) (K : ∀ h' : Hp, J h' → ZW b0 Ls xs h' 1359 (LZ i) []) : ZW b0 Ls xs h 462 (LZ i) [] := by
  have hI : Inv h := hJ.1
  refine Z_aload_n 1 dl_462 rfl rfl ?_
  refine Z_arg 1 (by decide) hi hL hL2 dl_463 dl_464 dl_465 dl_466 dl_467 ?_
  refine Z_arg 2 (by decide) hi hL hL2 dl_468 dl_469 dl_470 dl_471 dl_472 ?_
  refine Z_call [.int (xs (I + 1)), .int (xs (I + 2))] [] cv_law_57 sk_85 rfl dl_473 rfl (Nat.le_of_ble_eq_true rfl) (by decide) (by decide) (c_Rod_claimX h hI _ _ rfl _ _ rfl _ _ rfl rfl _ _ rfl rfl) (fun _ h1 hq => ?_)
  obtain ⟨r1, rfl, h1I, h1f⟩ := hq
  refine Z_pop dl_476 rfl ?_
  refine Z_aload_n 2 dl_477 rfl rfl ?_
  refine Z_arg 1 (by decide) hi hL hL2 dl_478 dl_479 dl_480 dl_481 dl_482 ?_
  refine Z_arg 2 (by decide) hi hL hL2 dl_483 dl_484 dl_485 dl_486 dl_487 ?_
  refine Z_call [.int (xs (I + 1)), .int (xs (I + 2))] [] cv_law_60 sk_116 rfl dl_488 rfl (Nat.le_of_ble_eq_true rfl) (by decide) (by decide) (c_Mod_claimX h1 h1I _ _ rfl _ _ rfl _ _ rfl rfl _ _ rfl rfl) (fun _ h2 hq => ?_)
  obtain ⟨r2, rfl, h2I, h2f⟩ := hq
  refine Z_pop dl_491 rfl ?_
  refine Z_goto 1359 dl_492 (by decide) ?_
  have wg := wg16 hI
  have w0 : h1.1 116 2 = h.1 1 0 := (h1f.1.1 116 2 rfl).trans (JA_wh hJ.2.2.1 (i := 0) (by decide)).symm
  have w1 : h1.1 116 3 = h.1 1 1 := (h1f.1.1 116 3 rfl).trans (JA_wh hJ.2.2.1 (i := 1) (by decide)).symm
  have E2 := h2f.2
  rw [w0, w1] at E2
  have hA := JA_row3 hI hJ.2.2.1 h1f.2 E2 (by (first | decide +kernel | omega)) (fun q => ⟨q.1, q.2.1⟩) (fun x y p q => p.trans q.symm)
  exact K h2 ⟨h2I, (JT_fr h2f.1 rfl (JT_fr h1f.1 rfl hJ.2.1)), hA.1, (JB_nB h2f.1 rfl (nB_Er E2 (fun q => by (first | decide +kernel | omega))) (JB_fr h1f.1 rfl hJ.2.2.2.1)), (JS_fr h2f.1 rfl (JS_fr h1f.1 rfl hJ.2.2.2.2))⟩
theorem law_11 {b0 Ls : Nat} {xs : Nat → Int32} {h : Hp} {i : Int32} {I : Nat} (hL2 : Ls ≤ 320) (hi : i.toInt = I) (hL : I + 5 ≤ Ls) (hJ : J h) (K : ∀ h' : Hp, J h' → ZW b0 Ls xs h' 1359 (LZ i) []) : ZW b0 Ls xs h 495 (LZ i) [] := by
  have hI : Inv h := hJ.1
  refine Z_aload_n 1 dl_495 rfl rfl ?_
  refine Z_arg 1 (by decide) hi hL hL2 dl_496 dl_497 dl_498 dl_499 dl_500 ?_
  refine Z_arg 2 (by decide) hi hL hL2 dl_501 dl_502 dl_503 dl_504 dl_505 ?_
  refine Z_call [.int (xs (I + 1)), .int (xs (I + 2))] [] cv_law_61 sk_85 rfl dl_506 rfl (Nat.le_of_ble_eq_true rfl) (by decide) (by decide) (c_Rod_fundX h hI _ _ rfl _ _ rfl) (fun _ h1 hq => ?_)
  obtain ⟨r1, rfl, h1I, h1f⟩ := hq
  refine Z_pop dl_509 rfl ?_
  refine Z_aload_n 2 dl_510 rfl rfl ?_
  refine Z_arg 1 (by decide) hi hL hL2 dl_511 dl_512 dl_513 dl_514 dl_515 ?_
  refine Z_arg 2 (by decide) hi hL hL2 dl_516 dl_517 dl_518 dl_519 dl_520 ?_
  refine Z_call [.int (xs (I + 1)), .int (xs (I + 2))] [] cv_law_64 sk_116 rfl dl_521 rfl (Nat.le_of_ble_eq_true rfl) (by decide) (by decide) (c_Mod_fundX h1 h1I _ _ rfl _ _ rfl) (fun _ h2 hq => ?_)
  obtain ⟨r2, rfl, h2I, h2f⟩ := hq
  refine Z_pop dl_524 rfl ?_
  refine Z_goto 1359 dl_525 (by decide) ?_
  have hB := JB_fund hJ.2.2.2.1 h1f.2 h2f.2 (fun q => by (first | decide +kernel | omega))
  exact K h2 ⟨h2I, (JT_fr h2f.1 rfl (JT_fr h1f.1 rfl hJ.2.1)), (JA_nA h2f.1 rfl (nA_Er h2f.2 (fun q => by (first | decide +kernel | omega))) (JA_fr h1f.1 rfl hJ.2.2.1)), hB.1, (JS_fr h2f.1 rfl (JS_fr h1f.1 rfl hJ.2.2.2.2))⟩
theorem law_12 {b0 Ls : Nat} {xs : Nat → Int32} {h : Hp} {i : Int32} {I : Nat} (hL2 : Ls ≤ 320) (hi : i.toInt = I) (hL : I + 5 ≤ Ls) (hJ : J h) (K : ∀ h' : Hp, J h' → ZW b0 Ls xs h' 1359 (LZ i) []) : ZW b0 Ls xs h 528 (LZ i) [] := by
  have hI : Inv h := hJ.1
  refine Z_aload_n 1 dl_528 rfl rfl ?_
  refine Z_arg 1 (by decide) hi hL hL2 dl_529 dl_530 dl_531 dl_532 dl_533 ?_
  refine Z_arg 2 (by decide) hi hL hL2 dl_534 dl_535 dl_536 dl_537 dl_538 ?_
  refine Z_call [.int (xs (I + 1)), .int (xs (I + 2))] [] cv_law_65 sk_85 rfl dl_539 rfl (Nat.le_of_ble_eq_true rfl) (by decide) (by decide) (c_Rod_cutX h hI _ _ rfl _ _ rfl _ _ rfl rfl) (fun _ h1 hq => ?_)
  obtain ⟨r1, rfl, h1I, h1f⟩ := hq
  refine Z_pop dl_542 rfl ?_
  refine Z_aload_n 2 dl_543 rfl rfl ?_
  refine Z_arg 1 (by decide) hi hL hL2 dl_544 dl_545 dl_546 dl_547 dl_548 ?_
  refine Z_arg 2 (by decide) hi hL hL2 dl_549 dl_550 dl_551 dl_552 dl_553 ?_
  refine Z_call [.int (xs (I + 1)), .int (xs (I + 2))] [] cv_law_68 sk_116 rfl dl_554 rfl (Nat.le_of_ble_eq_true rfl) (by decide) (by decide) (c_Mod_cutX h1 h1I _ _ rfl _ _ rfl _ _ rfl rfl) (fun _ h2 hq => ?_)
  obtain ⟨r2, rfl, h2I, h2f⟩ := hq
  refine Z_pop dl_557 rfl ?_
  refine Z_goto 1359 dl_558 (by decide) ?_
  have hA := JA_cut hJ.2.2.1 h1f.2 h2f.2 Iff.rfl rfl (h1f.1.1 117 84 rfl)
  exact K h2 ⟨h2I, (JT_fr h2f.1 rfl (JT_fr h1f.1 rfl hJ.2.1)), hA.1, (JB_nB h2f.1 rfl (nB_cut h2f.2) (JB_fr h1f.1 rfl hJ.2.2.2.1)), (JS_fr h2f.1 rfl (JS_fr h1f.1 rfl hJ.2.2.2.2))⟩
theorem law_13 {b0 Ls : Nat} {xs : Nat → Int32} {h : Hp} {i : Int32} {I : Nat} (hL2 : Ls ≤ 320) (hi : i.toInt = I) (hL : I + 5 ≤ Ls) (hJ : J h) (K : ∀ h' : Hp, J h' → ZW b0 Ls xs h' 1359 (LZ i) []) : ZW b0 Ls xs h 561 (LZ i) [] := by
  have hI : Inv h := hJ.1
  refine Z_aload_n 1 dl_561 rfl rfl ?_
  refine Z_arg 1 (by decide) hi hL hL2 dl_562 dl_563 dl_564 dl_565 dl_566 ?_
  refine Z_arg 2 (by decide) hi hL hL2 dl_567 dl_568 dl_569 dl_570 dl_571 ?_
  refine Z_arg 3 (by decide) hi hL hL2 dl_572 dl_573 dl_574 dl_575 dl_576 ?_
  refine Z_call [.int (xs (I + 1)), .int (xs (I + 2)), .int (xs (I + 3))] [] cv_law_69 sk_85 rfl dl_577 rfl (Nat.le_of_ble_eq_true rfl) (by decide) (by decide) (c_Rod_oweX h hI _ _ rfl _ _ rfl _ _ rfl _ _ rfl rfl) (fun _ h1 hq => ?_)
  obtain ⟨r1, rfl, h1I, h1f⟩ := hq
  refine Z_pop dl_580 rfl ?_
  refine Z_aload_n 2 dl_581 rfl rfl ?_
  refine Z_arg 1 (by decide) hi hL hL2 dl_582 dl_583 dl_584 dl_585 dl_586 ?_
  refine Z_arg 2 (by decide) hi hL hL2 dl_587 dl_588 dl_589 dl_590 dl_591 ?_
  refine Z_arg 3 (by decide) hi hL hL2 dl_592 dl_593 dl_594 dl_595 dl_596 ?_
  refine Z_call [.int (xs (I + 1)), .int (xs (I + 2)), .int (xs (I + 3))] [] cv_law_73 sk_116 rfl dl_597 rfl (Nat.le_of_ble_eq_true rfl) (by decide) (by decide) (c_Mod_oweX h1 h1I _ _ rfl _ _ rfl _ _ rfl _ _ rfl rfl) (fun _ h2 hq => ?_)
  obtain ⟨r2, rfl, h2I, h2f⟩ := hq
  refine Z_pop dl_600 rfl ?_
  refine Z_goto 1359 dl_601 (by decide) ?_
  have t0 : h1.1 117 86 = h.1 7 4 := (h1f.1.1 117 86 rfl).trans (JA_c86 hJ.2.2.1).symm
  have E2 := h2f.2
  have hA := JA_owe hJ.2.2.1 h1f.2 E2 Iff.rfl (hI 7 4).1 (congrArg Int32.toInt t0) rfl
  exact K h2 ⟨h2I, (JT_fr h2f.1 rfl (JT_fr h1f.1 rfl hJ.2.1)), hA.1, (JB_nB h2f.1 rfl (nB_owe E2 (show (0 : Int) ≤ _ from (h1I 117 86).1)) (JB_fr h1f.1 rfl hJ.2.2.2.1)), (JS_fr h2f.1 rfl (JS_fr h1f.1 rfl hJ.2.2.2.2))⟩
theorem law_14 {b0 Ls : Nat} {xs : Nat → Int32} {h : Hp} {i : Int32} {I : Nat} (hL2 : Ls ≤ 320) (hi : i.toInt = I) (hL : I + 5 ≤ Ls) (hJ : J h) (K : ∀ h' : Hp, J h' → ZW b0 Ls xs h' 1359 (LZ i) []) : ZW b0 Ls xs h 604 (LZ i) [] := by
  have hI : Inv h := hJ.1
  refine Z_aload_n 1 dl_604 rfl rfl ?_
  refine Z_arg 1 (by decide) hi hL hL2 dl_605 dl_606 dl_607 dl_608 dl_609 ?_
  refine Z_call [.int (xs (I + 1))] [] cv_law_74 sk_85 rfl dl_610 rfl (Nat.le_of_ble_eq_true rfl) (by decide) (by decide) (c_Rod_payX h hI _ _ rfl _ _ rfl rfl) (fun _ h1 hq => ?_)
  obtain ⟨r1, rfl, h1I, h1f⟩ := hq
  refine Z_pop dl_613 rfl ?_
  refine Z_aload_n 2 dl_614 rfl rfl ?_
  refine Z_arg 1 (by decide) hi hL hL2 dl_615 dl_616 dl_617 dl_618 dl_619 ?_
  refine Z_call [.int (xs (I + 1))] [] cv_law_77 sk_116 rfl dl_620 rfl (Nat.le_of_ble_eq_true rfl) (by decide) (by decide) (c_Mod_payX h1 h1I _ _ rfl _ _ rfl rfl) (fun _ h2 hq => ?_)
  obtain ⟨r2, rfl, h2I, h2f⟩ := hq
  refine Z_pop dl_623 rfl ?_
  refine Z_goto 1359 dl_624 (by decide) ?_
  have t0 : h1.1 117 86 = h.1 7 4 := (h1f.1.1 117 86 rfl).trans (JA_c86 hJ.2.2.1).symm
  have E2 := h2f.2
  rw [t0] at E2
  have hA := JA_pay hJ.2.2.1 h1f.2 E2 Iff.rfl (fun q => q.2) rfl (JA_c86 hJ.2.2.1)
  exact K h2 ⟨h2I, (JT_fr h2f.1 rfl (JT_fr h1f.1 rfl hJ.2.1)), hA.1, (JB_nB h2f.1 rfl (nB_Ew E2 (by decide)) (JB_fr h1f.1 rfl hJ.2.2.2.1)), (JS_fr h2f.1 rfl (JS_fr h1f.1 rfl hJ.2.2.2.2))⟩
theorem law_15 {b0 Ls : Nat} {xs : Nat → Int32} {h : Hp} {i : Int32} {I : Nat} (hL2 : Ls ≤ 320) (hi : i.toInt = I) (hL : I + 5 ≤ Ls) (hJ : J h) (K : ∀ h' : Hp, J h' → ZW b0 Ls xs h' 1359 (LZ i) []) : ZW b0 Ls xs h 627 (LZ i) [] := by
  have hI : Inv h := hJ.1
  refine Z_aload_n 1 dl_627 rfl rfl ?_
  refine Z_arg 1 (by decide) hi hL hL2 dl_628 dl_629 dl_630 dl_631 dl_632 ?_
  refine Z_call [.int (xs (I + 1))] [] cv_law_78 sk_85 rfl dl_633 rfl (Nat.le_of_ble_eq_true rfl) (by decide) (by decide) (c_Rod_rainW h hI _ _ rfl _ _ rfl rfl _ _ rfl rfl) (fun _ h1 hq => ?_)
  obtain ⟨r1, rfl, h1I, h1f⟩ := hq
  refine Z_pop dl_636 rfl ?_
  refine Z_aload_n 2 dl_637 rfl rfl ?_
  refine Z_arg 1 (by decide) hi hL hL2 dl_638 dl_639 dl_640 dl_641 dl_642 ?_
  refine Z_call [.int (xs (I + 1))] [] cv_law_81 sk_116 rfl dl_643 rfl (Nat.le_of_ble_eq_true rfl) (by decide) (by decide) (c_Mod_rainW h1 h1I _ _ rfl _ _ rfl rfl _ _ rfl rfl (fun i hi => by rw [h1f.1.1 117 i rfl, ← (JB_w hJ.2.2.2.1 hi).1]; exact (JB_w hJ.2.2.2.1 hi).2)) (fun _ h2 hq => ?_)
  obtain ⟨r2, rfl, h2I, h2f⟩ := hq
  refine Z_pop dl_646 rfl ?_
  refine Z_goto 1359 dl_647 (by decide) ?_
  have wg := wg16 hI
  have w0 : h1.1 116 2 = h.1 1 0 := (h1f.1.1 116 2 rfl).trans (JA_wh hJ.2.2.1 (i := 0) (by decide)).symm
  have w1 : h1.1 116 3 = h.1 1 1 := (h1f.1.1 116 3 rfl).trans (JA_wh hJ.2.2.1 (i := 1) (by decide)).symm
  have E2 := h2f.2
  rw [w0, w1] at E2
  have hB := JB_rain hJ.2.2.2.1 h1f.1 rfl h1f.2.1 _ h2f.1 rfl E2.1
  exact K h2 ⟨h2I, (JT_fr h2f.1 rfl (JT_fr h1f.1 rfl hJ.2.1)), (JA_nA h2f.1 rfl (nA_rain E2.1) (JA_fr h1f.1 rfl hJ.2.2.1)), hB, (JS_fr h2f.1 rfl (JS_fr h1f.1 rfl hJ.2.2.2.2))⟩
theorem law_16 {b0 Ls : Nat} {xs : Nat → Int32} {h : Hp} {i : Int32} {I : Nat} (hL2 : Ls ≤ 320) (hi : i.toInt = I) (hL : I + 5 ≤ Ls) (hJ : J h) (K : ∀ h' : Hp, J h' → ZW b0 Ls xs h' 1359 (LZ i) []) : ZW b0 Ls xs h 650 (LZ i) [] := by
  have hI : Inv h := hJ.1
  refine Z_aload_n 1 dl_650 rfl rfl ?_
  refine Z_arg 1 (by decide) hi hL hL2 dl_651 dl_652 dl_653 dl_654 dl_655 ?_
  refine Z_arg 2 (by decide) hi hL hL2 dl_656 dl_657 dl_658 dl_659 dl_660 ?_
  refine Z_arg 3 (by decide) hi hL hL2 dl_661 dl_662 dl_663 dl_664 dl_665 ?_
  refine Z_call [.int (xs (I + 1)), .int (xs (I + 2)), .int (xs (I + 3))] [] cv_law_82 sk_85 rfl dl_666 rfl (Nat.le_of_ble_eq_true rfl) (by decide) (by decide) (c_Rod_twitch h hI _ _ rfl _ _ rfl _ _ rfl) (fun _ h1 hq => ?_)
  obtain ⟨r1, rfl, r1e⟩ := hq
  subst r1e
  refine Z_pop dl_669 rfl ?_
  refine Z_aload_n 2 dl_670 rfl rfl ?_
  refine Z_arg 1 (by decide) hi hL hL2 dl_671 dl_672 dl_673 dl_674 dl_675 ?_
  refine Z_arg 2 (by decide) hi hL hL2 dl_676 dl_677 dl_678 dl_679 dl_680 ?_
  refine Z_arg 3 (by decide) hi hL hL2 dl_681 dl_682 dl_683 dl_684 dl_685 ?_
  refine Z_call [.int (xs (I + 1)), .int (xs (I + 2)), .int (xs (I + 3))] [] cv_law_85 sk_116 rfl dl_686 rfl (Nat.le_of_ble_eq_true rfl) (by decide) (by decide) (c_Mod_twitch h hI _ _ rfl _ _ rfl _ _ rfl _ _ rfl rfl _ _ rfl rfl) (fun _ h2 hq => ?_)
  obtain ⟨r2, rfl, r2e⟩ := hq
  subst r2e
  refine Z_pop dl_689 rfl ?_
  refine Z_goto 1359 dl_690 (by decide) ?_
  exact K h ⟨hI, hJ.2.1, hJ.2.2.1, hJ.2.2.2.1, hJ.2.2.2.2⟩
theorem law_17 {b0 Ls : Nat} {xs : Nat → Int32} {h : Hp} {i : Int32} {I : Nat} (hL2 : Ls ≤ 320) (hi : i.toInt = I) (hL : I + 5 ≤ Ls) (hJ : J h) (K : ∀ h' : Hp, J h' → ZW b0 Ls xs h' 1359 (LZ i) []) : ZW b0 Ls xs h 693 (LZ i) [] := by
  have hI : Inv h := hJ.1
  refine Z_aload_n 1 dl_693 rfl rfl ?_
  refine Z_arg 1 (by decide) hi hL hL2 dl_694 dl_695 dl_696 dl_697 dl_698 ?_
  refine Z_arg 2 (by decide) hi hL hL2 dl_699 dl_700 dl_701 dl_702 dl_703 ?_
  refine Z_arg 3 (by decide) hi hL hL2 dl_704 dl_705 dl_706 dl_707 dl_708 ?_
  refine Z_arg 4 (by decide) hi hL hL2 dl_709 dl_710 dl_711 dl_712 dl_713 ?_
  refine Z_bool dl_714 dl_717 dl_718 dl_721 (fun b1 b1e => ?_)
  refine Z_call [.int (xs (I + 1)), .int (xs (I + 2)), .int (xs (I + 3)), .int b1] [] cv_law_86 sk_85 rfl dl_722 rfl (Nat.le_of_ble_eq_true rfl) (by decide) (by decide) (c_Rod_seeX h hI _ _ rfl _ _ rfl _ _ rfl _ _ rfl _ _ rfl rfl _ _ rfl rfl _ _ rfl rfl) (fun _ h2 hq => ?_)
  obtain ⟨r2, rfl, h2I, h2f⟩ := hq
  refine Z_pop dl_725 rfl ?_
  refine Z_aload_n 2 dl_726 rfl rfl ?_
  refine Z_arg 1 (by decide) hi hL hL2 dl_727 dl_728 dl_729 dl_730 dl_731 ?_
  refine Z_arg 2 (by decide) hi hL hL2 dl_732 dl_733 dl_734 dl_735 dl_736 ?_
  refine Z_arg 3 (by decide) hi hL hL2 dl_737 dl_738 dl_739 dl_740 dl_741 ?_
  refine Z_arg 4 (by decide) hi hL hL2 dl_742 dl_743 dl_744 dl_745 dl_746 ?_
  refine Z_bool dl_747 dl_750 dl_751 dl_754 (fun b3 b3e => ?_)
  refine Z_call [.int (xs (I + 1)), .int (xs (I + 2)), .int (xs (I + 3)), .int b3] [] cv_law_90 sk_116 rfl dl_755 rfl (Nat.le_of_ble_eq_true rfl) (by decide) (by decide) (c_Mod_seeX h2 h2I _ _ rfl _ _ rfl _ _ rfl _ _ rfl _ _ rfl rfl _ _ rfl rfl _ _ rfl rfl) (fun _ h4 hq => ?_)
  obtain ⟨r4, rfl, h4I, h4f⟩ := hq
  refine Z_pop dl_758 rfl ?_
  refine Z_goto 1359 dl_759 (by decide) ?_
  obtain rfl : b3 = b1 := b3e.trans b1e.symm
  have w0 : h2.1 116 2 = h.1 1 0 := (h2f.1.1 116 2 rfl).trans (JA_wh hJ.2.2.1 (i := 0) (by decide)).symm
  have w1 : h2.1 116 3 = h.1 1 1 := (h2f.1.1 116 3 rfl).trans (JA_wh hJ.2.2.1 (i := 1) (by decide)).symm
  have t0 : h2.1 117 111 = h.1 12 4 := (h2f.1.1 117 111 rfl).trans (JA_c111 hJ.2.2.1).symm
  have E2 := h4f.2
  rw [w0, w1] at E2
  have hA := JA_see hJ.2.2.1 h2f.2 E2 Iff.rfl (hI 12 4).1 (congrArg Int32.toInt t0) rfl
  exact K h4 ⟨h4I, (JT_fr h4f.1 rfl (JT_fr h2f.1 rfl hJ.2.1)), hA.1, (JB_nB h4f.1 rfl (nB_see E2 (show (0 : Int) ≤ _ from (h2I 117 111).1)) (JB_fr h2f.1 rfl hJ.2.2.2.1)), (JS_fr h4f.1 rfl (JS_fr h2f.1 rfl hJ.2.2.2.2))⟩
theorem law_18 {b0 Ls : Nat} {xs : Nat → Int32} {h : Hp} {i : Int32} {I : Nat} (hL2 : Ls ≤ 320) (hi : i.toInt = I) (hL : I + 5 ≤ Ls) (hJ : J h) (K : ∀ h' : Hp, J h' → ZW b0 Ls xs h' 1359 (LZ i) []) : ZW b0 Ls xs h 762 (LZ i) [] := by
  have hI : Inv h := hJ.1
  refine Z_aload_n 1 dl_762 rfl rfl ?_
  refine Z_arg 1 (by decide) hi hL hL2 dl_763 dl_764 dl_765 dl_766 dl_767 ?_
  refine Z_call [.int (xs (I + 1))] [] cv_law_91 sk_85 rfl dl_768 rfl (Nat.le_of_ble_eq_true rfl) (by decide) (by decide) (c_Rod_forgetX h hI _ _ rfl _ _ rfl rfl) (fun _ h1 hq => ?_)
  obtain ⟨r1, rfl, h1I, h1f⟩ := hq
  refine Z_pop dl_771 rfl ?_
  refine Z_aload_n 2 dl_772 rfl rfl ?_
  refine Z_arg 1 (by decide) hi hL hL2 dl_773 dl_774 dl_775 dl_776 dl_777 ?_
  refine Z_call [.int (xs (I + 1))] [] cv_law_94 sk_116 rfl dl_778 rfl (Nat.le_of_ble_eq_true rfl) (by decide) (by decide) (c_Mod_forgetX h1 h1I _ _ rfl _ _ rfl rfl) (fun _ h2 hq => ?_)
  obtain ⟨r2, rfl, h2I, h2f⟩ := hq
  refine Z_pop dl_781 rfl ?_
  refine Z_goto 1359 dl_782 (by decide) ?_
  have t0 : h1.1 117 111 = h.1 12 4 := (h1f.1.1 117 111 rfl).trans (JA_c111 hJ.2.2.1).symm
  have E2 := h2f.2
  rw [t0] at E2
  have hA := JA_forget hJ.2.2.1 h1f.2 E2 Iff.rfl (fun q => q.2) rfl (JA_c111 hJ.2.2.1)
  exact K h2 ⟨h2I, (JT_fr h2f.1 rfl (JT_fr h1f.1 rfl hJ.2.1)), hA.1, (JB_nB h2f.1 rfl (nB_Ew E2 (by decide)) (JB_fr h1f.1 rfl hJ.2.2.2.1)), (JS_fr h2f.1 rfl (JS_fr h1f.1 rfl hJ.2.2.2.2))⟩
theorem law_19 {b0 Ls : Nat} {xs : Nat → Int32} {h : Hp} {i : Int32} {I : Nat} (hL2 : Ls ≤ 320) (hi : i.toInt = I) (hL : I + 5 ≤ Ls) (hJ : J h) (K : ∀ h' : Hp, J h' → ZW b0 Ls xs h' 1359 (LZ i) []) : ZW b0 Ls xs h 785 (LZ i) [] := by
  have hI : Inv h := hJ.1
  refine Z_aload_n 1 dl_785 rfl rfl ?_
  refine Z_call [] [] cv_law_95 sk_85 rfl dl_786 rfl (Nat.le_of_ble_eq_true rfl) (by decide) (by decide) (c_Rod_natures h hI) (fun _ h1 hq => ?_)
  obtain ⟨r1, rfl, r1e⟩ := hq
  subst r1e
  refine Z_pop dl_789 rfl ?_
  refine Z_aload_n 2 dl_790 rfl rfl ?_
  refine Z_call [] [] cv_law_98 sk_116 rfl dl_791 rfl (Nat.le_of_ble_eq_true rfl) (by decide) (by decide) (c_Mod_natures h hI) (fun _ h2 hq => ?_)
  obtain ⟨r2, rfl, r2e⟩ := hq
  subst r2e
  refine Z_pop dl_794 rfl ?_
  refine Z_goto 1359 dl_795 (by decide) ?_
  exact K h ⟨hI, hJ.2.1, hJ.2.2.1, hJ.2.2.2.1, hJ.2.2.2.2⟩
theorem law_20 {b0 Ls : Nat} {xs : Nat → Int32} {h : Hp} {i : Int32} {I : Nat} (hL2 : Ls ≤ 320) (hi : i.toInt = I) (hL : I + 5 ≤ Ls) (hJ : J h) (K : ∀ h' : Hp, J h' → ZW b0 Ls xs h' 1359 (LZ i) []) : ZW b0 Ls xs h 798 (LZ i) [] := by
  have hI : Inv h := hJ.1
  refine Z_aload_n 1 dl_798 rfl rfl ?_
  refine Z_arg 1 (by decide) hi hL hL2 dl_799 dl_800 dl_801 dl_802 dl_803 ?_
  refine Z_call [.int (xs (I + 1))] [] cv_law_99 sk_85 rfl dl_804 rfl (Nat.le_of_ble_eq_true rfl) (by decide) (by decide) (c_Rod_reaches h hI _ _ rfl) (fun _ h1 hq => ?_)
  obtain ⟨r1, rfl, r1e⟩ := hq
  subst r1e
  refine Z_pop dl_807 rfl ?_
  refine Z_aload_n 2 dl_808 rfl rfl ?_
  refine Z_arg 1 (by decide) hi hL hL2 dl_809 dl_810 dl_811 dl_812 dl_813 ?_
  refine Z_call [.int (xs (I + 1))] [] cv_law_102 sk_116 rfl dl_814 rfl (Nat.le_of_ble_eq_true rfl) (by decide) (by decide) (c_Mod_reaches h hI _ _ rfl) (fun _ h2 hq => ?_)
  obtain ⟨r2, rfl, r2e⟩ := hq
  subst r2e
  refine Z_pop dl_817 rfl ?_
  refine Z_goto 1359 dl_818 (by decide) ?_
  exact K h ⟨hI, hJ.2.1, hJ.2.2.1, hJ.2.2.2.1, hJ.2.2.2.2⟩
theorem law_21 {b0 Ls : Nat} {xs : Nat → Int32} {h : Hp} {i : Int32} {I : Nat} (hL2 : Ls ≤ 320) (hi : i.toInt = I) (hL : I + 5 ≤ Ls) (hJ : J h) (K : ∀ h' : Hp, J h' → ZW b0 Ls xs h' 1359 (LZ i) []) : ZW b0 Ls xs h 821 (LZ i) [] := by
  have hI : Inv h := hJ.1
  refine Z_aload_n 1 dl_821 rfl rfl ?_
  refine Z_arg 1 (by decide) hi hL hL2 dl_822 dl_823 dl_824 dl_825 dl_826 ?_
  refine Z_arg 2 (by decide) hi hL hL2 dl_827 dl_828 dl_829 dl_830 dl_831 ?_
  refine Z_call [.int (xs (I + 1)), .int (xs (I + 2))] [] cv_law_103 sk_85 rfl dl_832 rfl (Nat.le_of_ble_eq_true rfl) (by decide) (by decide) (c_Rod_test h hI _ _ rfl _ _ rfl) (fun _ h1 hq => ?_)
  obtain ⟨r1, rfl, r1e⟩ := hq
  subst r1e
  refine Z_pop dl_835 rfl ?_
  refine Z_aload_n 2 dl_836 rfl rfl ?_
  refine Z_arg 1 (by decide) hi hL hL2 dl_837 dl_838 dl_839 dl_840 dl_841 ?_
  refine Z_arg 2 (by decide) hi hL hL2 dl_842 dl_843 dl_844 dl_845 dl_846 ?_
  refine Z_call [.int (xs (I + 1)), .int (xs (I + 2))] [] cv_law_106 sk_116 rfl dl_847 rfl (Nat.le_of_ble_eq_true rfl) (by decide) (by decide) (c_Mod_test h hI _ _ rfl _ _ rfl _ _ rfl rfl _ _ rfl rfl) (fun _ h2 hq => ?_)
  obtain ⟨r2, rfl, r2e⟩ := hq
  subst r2e
  refine Z_pop dl_850 rfl ?_
  refine Z_goto 1359 dl_851 (by decide) ?_
  exact K h ⟨hI, hJ.2.1, hJ.2.2.1, hJ.2.2.2.1, hJ.2.2.2.2⟩
theorem law_22 {b0 Ls : Nat} {xs : Nat → Int32} {h : Hp} {i : Int32} {I : Nat} (hL2 : Ls ≤ 320) (hi : i.toInt = I) (hL : I + 5 ≤ Ls) (hJ : J h) (K : ∀ h' : Hp, J h' → ZW b0 Ls xs h' 1359 (LZ i) []) : ZW b0 Ls xs h 854 (LZ i) [] := by
  have hI : Inv h := hJ.1
  refine Z_aload_n 1 dl_854 rfl rfl ?_
  refine Z_arg 1 (by decide) hi hL hL2 dl_855 dl_856 dl_857 dl_858 dl_859 ?_
  refine Z_arg 2 (by decide) hi hL hL2 dl_860 dl_861 dl_862 dl_863 dl_864 ?_
  refine Z_arg 3 (by decide) hi hL hL2 dl_865 dl_866 dl_867 dl_868 dl_869 ?_
  refine Z_arg 4 (by decide) hi hL hL2 dl_870 dl_871 dl_872 dl_873 dl_874 ?_
  refine Z_call [.int (xs (I + 1)), .int (xs (I + 2)), .int (xs (I + 3)), .int (xs (I + 4))] [] cv_law_107 sk_85 rfl dl_875 rfl (Nat.le_of_ble_eq_true rfl) (by decide) (by decide) (c_Rod_show h hI _ _ rfl _ _ rfl _ _ rfl _ _ rfl) (fun _ h1 hq => ?_)
  obtain ⟨r1, rfl, h1I, h1f⟩ := hq
  refine Z_pop dl_878 rfl ?_
  refine Z_aload_n 2 dl_879 rfl rfl ?_
  refine Z_arg 1 (by decide) hi hL hL2 dl_880 dl_881 dl_882 dl_883 dl_884 ?_
  refine Z_arg 2 (by decide) hi hL hL2 dl_885 dl_886 dl_887 dl_888 dl_889 ?_
  refine Z_arg 3 (by decide) hi hL hL2 dl_890 dl_891 dl_892 dl_893 dl_894 ?_
  refine Z_arg 4 (by decide) hi hL hL2 dl_895 dl_896 dl_897 dl_898 dl_899 ?_
  refine Z_call [.int (xs (I + 1)), .int (xs (I + 2)), .int (xs (I + 3)), .int (xs (I + 4))] [] cv_law_111 sk_116 rfl dl_900 rfl (Nat.le_of_ble_eq_true rfl) (by decide) (by decide) (c_Mod_show h1 h1I _ _ rfl _ _ rfl _ _ rfl _ _ rfl _ _ rfl rfl _ _ rfl rfl) (fun _ h2 hq => ?_)
  obtain ⟨r2, rfl, h2I, h2f⟩ := hq
  refine Z_pop dl_903 rfl ?_
  refine Z_goto 1359 dl_904 (by decide) ?_
  exact K h2 ⟨h2I, (JT_fr h2f rfl (JT_fr h1f rfl hJ.2.1)), (JA_fr h2f rfl (JA_fr h1f rfl hJ.2.2.1)), (JB_fr h2f rfl (JB_fr h1f rfl hJ.2.2.2.1)), (JS_fr h2f rfl (JS_fr h1f rfl hJ.2.2.2.2))⟩
theorem law_23 {b0 Ls : Nat} {xs : Nat → Int32} {h : Hp} {i : Int32} {I : Nat} (hL2 : Ls ≤ 320) (hi : i.toInt = I) (hL : I + 5 ≤ Ls) (hJ : J h) (K : ∀ h' : Hp, J h' → ZW b0 Ls xs h' 1359 (LZ i) []) : ZW b0 Ls xs h 907 (LZ i) [] := by
  have hI : Inv h := hJ.1
  refine Z_aload_n 1 dl_907 rfl rfl ?_
  refine Z_arg 1 (by decide) hi hL hL2 dl_908 dl_909 dl_910 dl_911 dl_912 ?_
  refine Z_arg 2 (by decide) hi hL hL2 dl_913 dl_914 dl_915 dl_916 dl_917 ?_
  refine Z_arg 3 (by decide) hi hL hL2 dl_918 dl_919 dl_920 dl_921 dl_922 ?_
  refine Z_call [.int (xs (I + 1)), .int (xs (I + 2)), .int (xs (I + 3))] [] cv_law_112 sk_85 rfl dl_923 rfl (Nat.le_of_ble_eq_true rfl) (by decide) (by decide) (c_Rod_boreX h hI _ _ rfl _ _ rfl _ _ rfl _ _ rfl rfl _ _ rfl rfl _ _ rfl rfl _ _ rfl rfl) (fun _ h1 hq => ?_)
  obtain ⟨r1, rfl, h1I, h1f⟩ := hq
  refine Z_pop dl_926 rfl ?_
  refine Z_aload_n 2 dl_927 rfl rfl ?_
  refine Z_arg 1 (by decide) hi hL hL2 dl_928 dl_929 dl_930 dl_931 dl_932 ?_
  refine Z_arg 2 (by decide) hi hL hL2 dl_933 dl_934 dl_935 dl_936 dl_937 ?_
  refine Z_arg 3 (by decide) hi hL hL2 dl_938 dl_939 dl_940 dl_941 dl_942 ?_
  refine Z_call [.int (xs (I + 1)), .int (xs (I + 2)), .int (xs (I + 3))] [] cv_law_115 sk_116 rfl dl_943 rfl (Nat.le_of_ble_eq_true rfl) (by decide) (by decide) (c_Mod_boreX h1 h1I _ _ rfl _ _ rfl _ _ rfl _ _ rfl rfl _ _ rfl rfl _ _ rfl rfl _ _ rfl rfl) (fun _ h2 hq => ?_)
  obtain ⟨r2, rfl, h2I, h2f⟩ := hq
  refine Z_pop dl_946 rfl ?_
  refine Z_goto 1359 dl_947 (by decide) ?_
  have wg := wg16 hI
  have w0 : h1.1 116 2 = h.1 1 0 := (h1f.1.1 116 2 rfl).trans (JA_wh hJ.2.2.1 (i := 0) (by decide)).symm
  have w1 : h1.1 116 3 = h.1 1 1 := (h1f.1.1 116 3 rfl).trans (JA_wh hJ.2.2.1 (i := 1) (by decide)).symm
  have E2 := h2f.2
  rw [w0, w1] at E2
  have hB := JB_bore2 hJ.2.2.1 hJ.2.2.2.1 h1f.1 rfl wg.2 h1f.2 E2
  exact K h2 ⟨h2I, (JT_fr h2f.1 rfl (JT_fr h1f.1 rfl hJ.2.1)), (JA_nA h2f.1 rfl (nA_BE E2 (fun q => by (first | decide +kernel | omega))) (JA_fr h1f.1 rfl hJ.2.2.1)), hB.1, (JS_fr h2f.1 rfl (JS_fr h1f.1 rfl hJ.2.2.2.2))⟩
theorem law_24 {b0 Ls : Nat} {xs : Nat → Int32} {h : Hp} {i : Int32} {I : Nat} (hL2 : Ls ≤ 320) (hi : i.toInt = I) (hL : I + 5 ≤ Ls) (hJ : J h) (K : ∀ h' : Hp, J h' → ZW b0 Ls xs h' 1359 (LZ i) []) : ZW b0 Ls xs h 950 (LZ i) [] := by
  have hI : Inv h := hJ.1
  refine Z_aload_n 1 dl_950 rfl rfl ?_
  refine Z_arg 1 (by decide) hi hL hL2 dl_951 dl_952 dl_953 dl_954 dl_955 ?_
  refine Z_arg 2 (by decide) hi hL hL2 dl_956 dl_957 dl_958 dl_959 dl_960 ?_
  refine Z_arg 3 (by decide) hi hL hL2 dl_961 dl_962 dl_963 dl_964 dl_965 ?_
  refine Z_arg 4 (by decide) hi hL hL2 dl_966 dl_967 dl_968 dl_969 dl_970 ?_
  refine Z_call [.int (xs (I + 1)), .int (xs (I + 2)), .int (xs (I + 3)), .int (xs (I + 4))] [] cv_law_116 sk_85 rfl dl_971 rfl (Nat.le_of_ble_eq_true rfl) (by decide) (by decide) (c_Rod_plan h hI _ _ rfl _ _ rfl _ _ rfl _ _ rfl) (fun _ h1 hq => ?_)
  obtain ⟨r1, rfl, h1I, h1f⟩ := hq
  refine Z_pop2L dl_974 rfl ?_
  refine Z_aload_n 2 dl_975 rfl rfl ?_
  refine Z_arg 1 (by decide) hi hL hL2 dl_976 dl_977 dl_978 dl_979 dl_980 ?_
  refine Z_arg 2 (by decide) hi hL hL2 dl_981 dl_982 dl_983 dl_984 dl_985 ?_
  refine Z_arg 3 (by decide) hi hL hL2 dl_986 dl_987 dl_988 dl_989 dl_990 ?_
  refine Z_arg 4 (by decide) hi hL hL2 dl_991 dl_992 dl_993 dl_994 dl_995 ?_
  refine Z_call [.int (xs (I + 1)), .int (xs (I + 2)), .int (xs (I + 3)), .int (xs (I + 4))] [] cv_law_120 sk_116 rfl dl_996 rfl (Nat.le_of_ble_eq_true rfl) (by decide) (by decide) (c_Mod_plan h1 h1I _ _ rfl _ _ rfl _ _ rfl _ _ rfl _ _ rfl rfl _ _ rfl rfl) (fun _ h2 hq => ?_)
  obtain ⟨r2, rfl, h2I, h2f⟩ := hq
  refine Z_pop2L dl_999 rfl ?_
  refine Z_goto 1359 dl_1000 (by decide) ?_
  exact K h2 ⟨h2I, (JT_fr h2f rfl (JT_fr h1f rfl hJ.2.1)), (JA_fr h2f rfl (JA_fr h1f rfl hJ.2.2.1)), (JB_fr h2f rfl (JB_fr h1f rfl hJ.2.2.2.1)), (JS_fr h2f rfl (JS_fr h1f rfl hJ.2.2.2.2))⟩
theorem law_25 {b0 Ls : Nat} {xs : Nat → Int32} {h : Hp} {i : Int32} {I : Nat} (hL2 : Ls ≤ 320) (hi : i.toInt = I) (hL : I + 5 ≤ Ls) (hJ : J h) (K : ∀ h' : Hp, J h' → ZW b0 Ls xs h' 1359 (LZ i) []) : ZW b0 Ls xs h 1003 (LZ i) [] := by
  have hI : Inv h := hJ.1
  refine Z_aload_n 1 dl_1003 rfl rfl ?_
  refine Z_arg 1 (by decide) hi hL hL2 dl_1004 dl_1005 dl_1006 dl_1007 dl_1008 ?_
  refine Z_call [.int (xs (I + 1))] [] cv_law_121 sk_85 rfl dl_1009 rfl (Nat.le_of_ble_eq_true rfl) (by decide) (by decide) (c_Rod_beds h hI _ _ rfl) (fun _ h1 hq => ?_)
  obtain ⟨r1, rfl, h1I, h1f⟩ := hq
  refine Z_pop dl_1012 rfl ?_
  refine Z_aload_n 2 dl_1013 rfl rfl ?_
  refine Z_arg 1 (by decide) hi hL hL2 dl_1014 dl_1015 dl_1016 dl_1017 dl_1018 ?_
  refine Z_call [.int (xs (I + 1))] [] cv_law_124 sk_116 rfl dl_1019 rfl (Nat.le_of_ble_eq_true rfl) (by decide) (by decide) (c_Mod_beds h1 h1I _ _ rfl _ _ rfl rfl _ _ rfl rfl) (fun _ h2 hq => ?_)
  obtain ⟨r2, rfl, h2I, h2f⟩ := hq
  refine Z_pop dl_1022 rfl ?_
  refine Z_goto 1359 dl_1023 (by decide) ?_
  exact K h2 ⟨h2I, (JT_fr h2f rfl (JT_fr h1f rfl hJ.2.1)), (JA_fr h2f rfl (JA_fr h1f rfl hJ.2.2.1)), (JB_fr h2f rfl (JB_fr h1f rfl hJ.2.2.2.1)), (JS_fr h2f rfl (JS_fr h1f rfl hJ.2.2.2.2))⟩
theorem law_26 {b0 Ls : Nat} {xs : Nat → Int32} {h : Hp} {i : Int32} {I : Nat} (hL2 : Ls ≤ 320) (hi : i.toInt = I) (hL : I + 5 ≤ Ls) (hJ : J h) (K : ∀ h' : Hp, J h' → ZW b0 Ls xs h' 1359 (LZ i) []) : ZW b0 Ls xs h 1026 (LZ i) [] := by
  have hI : Inv h := hJ.1
  refine Z_aload_n 1 dl_1026 rfl rfl ?_
  refine Z_arg 1 (by decide) hi hL hL2 dl_1027 dl_1028 dl_1029 dl_1030 dl_1031 ?_
  refine Z_arg 2 (by decide) hi hL hL2 dl_1032 dl_1033 dl_1034 dl_1035 dl_1036 ?_
  refine Z_call [.int (xs (I + 1)), .int (xs (I + 2))] [] cv_law_125 sk_85 rfl dl_1037 rfl (Nat.le_of_ble_eq_true rfl) (by decide) (by decide) (c_Rod_next h hI _ _ rfl _ _ rfl) (fun _ h1 hq => ?_)
  obtain ⟨r1, rfl, h1I, h1f⟩ := hq
  refine Z_pop dl_1040 rfl ?_
  refine Z_aload_n 2 dl_1041 rfl rfl ?_
  refine Z_arg 1 (by decide) hi hL hL2 dl_1042 dl_1043 dl_1044 dl_1045 dl_1046 ?_
  refine Z_arg 2 (by decide) hi hL hL2 dl_1047 dl_1048 dl_1049 dl_1050 dl_1051 ?_
  refine Z_call [.int (xs (I + 1)), .int (xs (I + 2))] [] cv_law_128 sk_116 rfl dl_1052 rfl (Nat.le_of_ble_eq_true rfl) (by decide) (by decide) (c_Mod_next_ h1 h1I _ _ rfl _ _ rfl _ _ rfl rfl _ _ rfl rfl) (fun _ h2 hq => ?_)
  obtain ⟨r2, rfl, h2I, h2f⟩ := hq
  refine Z_pop dl_1055 rfl ?_
  refine Z_goto 1359 dl_1056 (by decide) ?_
  exact K h2 ⟨h2I, (JT_fr h2f rfl (JT_fr h1f rfl hJ.2.1)), (JA_fr h2f rfl (JA_fr h1f rfl hJ.2.2.1)), (JB_fr h2f rfl (JB_fr h1f rfl hJ.2.2.2.1)), (JS_fr h2f rfl (JS_fr h1f rfl hJ.2.2.2.2))⟩
theorem law_27 {b0 Ls : Nat} {xs : Nat → Int32} {h : Hp} {i : Int32} {I : Nat} (hL2 : Ls ≤ 320) (hi : i.toInt = I) (hL : I + 5 ≤ Ls) (hJ : J h) (K : ∀ h' : Hp, J h' → ZW b0 Ls xs h' 1359 (LZ i) []) : ZW b0 Ls xs h 1059 (LZ i) [] := by
  have hI : Inv h := hJ.1
  refine Z_aload_n 1 dl_1059 rfl rfl ?_
  refine Z_arg 1 (by decide) hi hL hL2 dl_1060 dl_1061 dl_1062 dl_1063 dl_1064 ?_
  refine Z_call [.int (xs (I + 1))] [] cv_law_129 sk_85 rfl dl_1065 rfl (Nat.le_of_ble_eq_true rfl) (by decide) (by decide) (c_Rod_crash h hI _ _ rfl) (fun _ h1 hq => ?_)
  obtain ⟨r1, rfl, r1e⟩ := hq
  subst r1e
  refine Z_pop dl_1068 rfl ?_
  refine Z_aload_n 2 dl_1069 rfl rfl ?_
  refine Z_arg 1 (by decide) hi hL hL2 dl_1070 dl_1071 dl_1072 dl_1073 dl_1074 ?_
  refine Z_call [.int (xs (I + 1))] [] cv_law_132 sk_116 rfl dl_1075 rfl (Nat.le_of_ble_eq_true rfl) (by decide) (by decide) (c_Mod_crash h hI _ _ rfl) (fun _ h2 hq => ?_)
  obtain ⟨r2, rfl, h2I, h2f⟩ := hq
  refine Z_pop dl_1078 rfl ?_
  refine Z_goto 1359 dl_1079 (by decide) ?_
  exact K h2 ⟨h2I, (JT_fr h2f rfl hJ.2.1), (JA_fr h2f rfl hJ.2.2.1), (JB_fr h2f rfl hJ.2.2.2.1), (JS_fr h2f rfl hJ.2.2.2.2)⟩
theorem law_28 {b0 Ls : Nat} {xs : Nat → Int32} {h : Hp} {i : Int32} {I : Nat} (hL2 : Ls ≤ 320) (hi : i.toInt = I) (hL : I + 5 ≤ Ls) (hJ : J h) (K : ∀ h' : Hp, J h' → ZW b0 Ls xs h' 1359 (LZ i) []) : ZW b0 Ls xs h 1082 (LZ i) [] := by
  have hI : Inv h := hJ.1
  refine Z_aload_n 1 dl_1082 rfl rfl ?_
  refine Z_arg 1 (by decide) hi hL hL2 dl_1083 dl_1084 dl_1085 dl_1086 dl_1087 ?_
  refine Z_call [.int (xs (I + 1))] [] cv_law_133 sk_85 rfl dl_1088 rfl (Nat.le_of_ble_eq_true rfl) (by decide) (by decide) (c_Rod_save h hI _ _ rfl) (fun _ h1 hq => ?_)
  obtain ⟨r1, rfl, r1e⟩ := hq
  subst r1e
  refine Z_pop dl_1091 rfl ?_
  refine Z_aload_n 2 dl_1092 rfl rfl ?_
  refine Z_arg 1 (by decide) hi hL hL2 dl_1093 dl_1094 dl_1095 dl_1096 dl_1097 ?_
  refine Z_call [.int (xs (I + 1))] [] cv_law_136 sk_116 rfl dl_1098 rfl (Nat.le_of_ble_eq_true rfl) (by decide) (by decide) (c_Mod_save h hI _ _ rfl) (fun _ h2 hq => ?_)
  obtain ⟨r2, rfl, h2I, h2f⟩ := hq
  refine Z_pop dl_1101 rfl ?_
  refine Z_goto 1359 dl_1102 (by decide) ?_
  exact K h2 ⟨h2I, (JT_fr h2f rfl hJ.2.1), (JA_fr h2f rfl hJ.2.2.1), (JB_fr h2f rfl hJ.2.2.2.1), (JS_fr h2f rfl hJ.2.2.2.2)⟩
theorem law_29 {b0 Ls : Nat} {xs : Nat → Int32} {h : Hp} {i : Int32} {I : Nat} (hL2 : Ls ≤ 320) (hi : i.toInt = I) (hL : I + 5 ≤ Ls) (hJ : J h) (K : ∀ h' : Hp, J h' → ZW b0 Ls xs h' 1359 (LZ i) []) : ZW b0 Ls xs h 1105 (LZ i) [] := by
  have hI : Inv h := hJ.1
  refine Z_aload_n 1 dl_1105 rfl rfl ?_
  refine Z_arg 1 (by decide) hi hL hL2 dl_1106 dl_1107 dl_1108 dl_1109 dl_1110 ?_
  refine Z_arg 2 (by decide) hi hL hL2 dl_1111 dl_1112 dl_1113 dl_1114 dl_1115 ?_
  refine Z_call [.int (xs (I + 1)), .int (xs (I + 2))] [] cv_law_137 sk_85 rfl dl_1116 rfl (Nat.le_of_ble_eq_true rfl) (by decide) (by decide) (c_Rod_luck h hI _ _ rfl _ _ rfl) (fun _ h1 hq => ?_)
  obtain ⟨r1, rfl, h1I, h1f⟩ := hq
  refine Z_pop dl_1119 rfl ?_
  refine Z_aload_n 2 dl_1120 rfl rfl ?_
  refine Z_arg 1 (by decide) hi hL hL2 dl_1121 dl_1122 dl_1123 dl_1124 dl_1125 ?_
  refine Z_arg 2 (by decide) hi hL hL2 dl_1126 dl_1127 dl_1128 dl_1129 dl_1130 ?_
  refine Z_call [.int (xs (I + 1)), .int (xs (I + 2))] [] cv_law_140 sk_116 rfl dl_1131 rfl (Nat.le_of_ble_eq_true rfl) (by decide) (by decide) (c_Mod_luck h1 h1I _ _ rfl _ _ rfl _ _ rfl rfl _ _ rfl rfl) (fun _ h2 hq => ?_)
  obtain ⟨r2, rfl, h2I, h2f⟩ := hq
  refine Z_pop dl_1134 rfl ?_
  refine Z_goto 1359 dl_1135 (by decide) ?_
  exact K h2 ⟨h2I, (JT_fr h2f rfl (JT_fr h1f rfl hJ.2.1)), (JA_fr h2f rfl (JA_fr h1f rfl hJ.2.2.1)), (JB_fr h2f rfl (JB_fr h1f rfl hJ.2.2.2.1)), (JS_fr h2f rfl (JS_fr h1f rfl hJ.2.2.2.2))⟩
theorem law_30 {b0 Ls : Nat} {xs : Nat → Int32} {h : Hp} {i : Int32} {I : Nat} (hL2 : Ls ≤ 320) (hi : i.toInt = I) (hL : I + 5 ≤ Ls) (hJ : J h) (K : ∀ h' : Hp, J h' → ZW b0 Ls xs h' 1359 (LZ i) []) : ZW b0 Ls xs h 1138 (LZ i) [] := by
  have hI : Inv h := hJ.1
  refine Z_aload_n 1 dl_1138 rfl rfl ?_
  refine Z_arg 1 (by decide) hi hL hL2 dl_1139 dl_1140 dl_1141 dl_1142 dl_1143 ?_
  refine Z_call [.int (xs (I + 1))] [] cv_law_141 sk_85 rfl dl_1144 rfl (Nat.le_of_ble_eq_true rfl) (by decide) (by decide) (c_Rod_keepX h hI _ _ rfl) (fun _ h1 hq => ?_)
  obtain ⟨r1, rfl, h1I, h1f⟩ := hq
  refine Z_pop dl_1147 rfl ?_
  refine Z_aload_n 2 dl_1148 rfl rfl ?_
  refine Z_arg 1 (by decide) hi hL hL2 dl_1149 dl_1150 dl_1151 dl_1152 dl_1153 ?_
  refine Z_call [.int (xs (I + 1))] [] cv_law_144 sk_116 rfl dl_1154 rfl (Nat.le_of_ble_eq_true rfl) (by decide) (by decide) (c_Mod_keepX h1 h1I _ _ rfl) (fun _ h2 hq => ?_)
  obtain ⟨r2, rfl, h2I, h2f⟩ := hq
  refine Z_pop dl_1157 rfl ?_
  refine Z_goto 1359 dl_1158 (by decide) ?_
  have hA := JA_keep hJ.2.2.1 h1f.1 h2f.1 rfl rfl rfl h1f.2 h2f.2
  exact K h2 ⟨h2I, (JT_fr h2f.1 rfl (JT_fr h1f.1 rfl hJ.2.1)), hA.1, (JB_keep hJ.2.2.2.1 h1f.1 h2f.1 rfl rfl rfl h1f.2 h2f.2), (JS_fr h2f.1 rfl (JS_fr h1f.1 rfl hJ.2.2.2.2))⟩
theorem law_31 {b0 Ls : Nat} {xs : Nat → Int32} {h : Hp} {i : Int32} {I : Nat} (hL2 : Ls ≤ 320) (hi : i.toInt = I) (hL : I + 5 ≤ Ls) (hJ : J h) (K : ∀ h' : Hp, J h' → ZW b0 Ls xs h' 1359 (LZ i) []) : ZW b0 Ls xs h 1161 (LZ i) [] := by
  have hI : Inv h := hJ.1
  refine Z_aload_n 1 dl_1161 rfl rfl ?_
  refine Z_arg 1 (by decide) hi hL hL2 dl_1162 dl_1163 dl_1164 dl_1165 dl_1166 ?_
  refine Z_call [.int (xs (I + 1))] [] cv_law_145 sk_85 rfl dl_1167 rfl (Nat.le_of_ble_eq_true rfl) (by decide) (by decide) (c_Rod_backW h hI _ _ rfl) (fun _ h1 hq => ?_)
  obtain ⟨r1, rfl, h1I, h1f⟩ := hq
  refine Z_pop dl_1170 rfl ?_
  refine Z_aload_n 2 dl_1171 rfl rfl ?_
  refine Z_arg 1 (by decide) hi hL hL2 dl_1172 dl_1173 dl_1174 dl_1175 dl_1176 ?_
  refine Z_call [.int (xs (I + 1))] [] cv_law_148 sk_116 rfl dl_1177 rfl (Nat.le_of_ble_eq_true rfl) (by decide) (by decide) (c_Mod_backW h1 h1I _ _ rfl _ _ rfl rfl _ _ rfl rfl) (fun _ h2 hq => ?_)
  obtain ⟨r2, rfl, h2I, h2f⟩ := hq
  refine Z_pop dl_1180 rfl ?_
  refine Z_goto 1359 dl_1181 (by decide) ?_
  have wg := wg16 hI
  have hA := JA_back hJ.2.2.1 h1f.1 h2f.1 rfl rfl rfl rfl h1f.2.1 h2f.2.1
  have hB := JB_back hJ.2.2.1 hJ.2.2.2.1 h1f.1 h2f.1 rfl rfl rfl h1f.2.1 h2f.2.1
  have W0 : h1.1 116 2 = h1.1 1 0 := (h2f.1.1 116 2 rfl).symm.trans ((JA_wh hA (i := 0) (by decide)).symm.trans (h2f.1.1 1 0 rfl))
  have W1 : h1.1 116 3 = h1.1 1 1 := (h2f.1.1 116 3 rfl).symm.trans ((JA_wh hA (i := 1) (by decide)).symm.trans (h2f.1.1 1 1 rfl))
  have E2 := h2f.2.2
  rw [W0, W1, show h1.1 118 0 = h.1 87 0 from (h1f.1.1 118 0 rfl).trans hJ.2.2.1.2.1.1.symm, show h1.1 118 1 = h.1 87 1 from (h1f.1.1 118 1 rfl).trans hJ.2.2.1.2.1.2.symm] at E2
  have wq := wg16 h1I
  exact K h2 ⟨h2I, (JT_fr h2f.1 rfl (JT_fr h1f.1 rfl hJ.2.1)), hA, hB, (JS_fr h2f.1 rfl (JS_fr h1f.1 rfl hJ.2.2.2.2))⟩
theorem law_32 {b0 Ls : Nat} {xs : Nat → Int32} {h : Hp} {i : Int32} {I : Nat} (hL2 : Ls ≤ 320) (hi : i.toInt = I) (hL : I + 5 ≤ Ls) (hJ : J h) (K : ∀ h' : Hp, J h' → ZW b0 Ls xs h' 1359 (LZ i) []) : ZW b0 Ls xs h 1184 (LZ i) [] := by
  have hI : Inv h := hJ.1
  refine Z_aload_n 1 dl_1184 rfl rfl ?_
  refine Z_arg 1 (by decide) hi hL hL2 dl_1185 dl_1186 dl_1187 dl_1188 dl_1189 ?_
  refine Z_arg 2 (by decide) hi hL hL2 dl_1190 dl_1191 dl_1192 dl_1193 dl_1194 ?_
  refine Z_arg 3 (by decide) hi hL hL2 dl_1195 dl_1196 dl_1197 dl_1198 dl_1199 ?_
  refine Z_call [.int (xs (I + 1)), .int (xs (I + 2)), .int (xs (I + 3))] [] cv_law_149 sk_85 rfl dl_1200 rfl (Nat.le_of_ble_eq_true rfl) (by decide) (by decide) (c_Rod_sheetZ h hI _ _ rfl _ _ rfl _ _ rfl) (fun _ h1 hq => ?_)
  obtain ⟨r1, rfl, h1I, h1f⟩ := hq
  refine Z_pop dl_1203 rfl ?_
  refine Z_aload_n 2 dl_1204 rfl rfl ?_
  refine Z_arg 1 (by decide) hi hL hL2 dl_1205 dl_1206 dl_1207 dl_1208 dl_1209 ?_
  refine Z_arg 2 (by decide) hi hL hL2 dl_1210 dl_1211 dl_1212 dl_1213 dl_1214 ?_
  refine Z_arg 3 (by decide) hi hL hL2 dl_1215 dl_1216 dl_1217 dl_1218 dl_1219 ?_
  refine Z_call [.int (xs (I + 1)), .int (xs (I + 2)), .int (xs (I + 3))] [] cv_law_152 sk_116 rfl dl_1220 rfl (Nat.le_of_ble_eq_true rfl) (by decide) (by decide) (c_Mod_sheetZ h1 h1I _ _ rfl _ _ rfl _ _ rfl) (fun _ h2 hq => ?_)
  obtain ⟨r2, rfl, h2I, h2f⟩ := hq
  refine Z_pop dl_1223 rfl ?_
  refine Z_goto 1359 dl_1224 (by decide) ?_
  have hS := JS_sheet hJ.2.2.2.2 h1f.1 h2f.1 rfl rfl (fun q => by (first | decide +kernel | omega)) h1f.2 h2f.2
  exact K h2 ⟨h2I, (JT_fr h2f.1 rfl (JT_fr h1f.1 rfl hJ.2.1)), (JA_fr h2f.1 rfl (JA_fr h1f.1 rfl hJ.2.2.1)), (JB_fr h2f.1 rfl (JB_fr h1f.1 rfl hJ.2.2.2.1)), hS.1⟩
theorem law_33 {b0 Ls : Nat} {xs : Nat → Int32} {h : Hp} {i : Int32} {I : Nat} (hL2 : Ls ≤ 320) (hi : i.toInt = I) (hL : I + 5 ≤ Ls) (hJ : J h) (K : ∀ h' : Hp, J h' → ZW b0 Ls xs h' 1359 (LZ i) []) : ZW b0 Ls xs h 1227 (LZ i) [] := by
  have hI : Inv h := hJ.1
  refine Z_aload_n 1 dl_1227 rfl rfl ?_
  refine Z_arg 1 (by decide) hi hL hL2 dl_1228 dl_1229 dl_1230 dl_1231 dl_1232 ?_
  refine Z_arg 2 (by decide) hi hL hL2 dl_1233 dl_1234 dl_1235 dl_1236 dl_1237 ?_
  refine Z_arg 3 (by decide) hi hL hL2 dl_1238 dl_1239 dl_1240 dl_1241 dl_1242 ?_
  refine Z_call [.int (xs (I + 1)), .int (xs (I + 2)), .int (xs (I + 3))] [] cv_law_153 sk_85 rfl dl_1243 rfl (Nat.le_of_ble_eq_true rfl) (by decide) (by decide) (c_Rod_layZ h hI _ _ rfl _ _ rfl _ _ rfl _ _ rfl rfl _ _ rfl rfl _ _ rfl rfl _ _ rfl rfl _ _ rfl rfl _ _ rfl rfl _ _ rfl rfl _ _ rfl rfl) (fun _ h1 hq => ?_)
  obtain ⟨r1, rfl, h1I, h1f⟩ := hq
  refine Z_pop dl_1246 rfl ?_
  refine Z_aload_n 2 dl_1247 rfl rfl ?_
  refine Z_arg 1 (by decide) hi hL hL2 dl_1248 dl_1249 dl_1250 dl_1251 dl_1252 ?_
  refine Z_arg 2 (by decide) hi hL hL2 dl_1253 dl_1254 dl_1255 dl_1256 dl_1257 ?_
  refine Z_arg 3 (by decide) hi hL hL2 dl_1258 dl_1259 dl_1260 dl_1261 dl_1262 ?_
  refine Z_call [.int (xs (I + 1)), .int (xs (I + 2)), .int (xs (I + 3))] [] cv_law_156 sk_116 rfl dl_1263 rfl (Nat.le_of_ble_eq_true rfl) (by decide) (by decide) (c_Mod_layZ h1 h1I _ _ rfl _ _ rfl _ _ rfl) (fun _ h2 hq => ?_)
  obtain ⟨r2, rfl, h2I, h2f⟩ := hq
  refine Z_pop dl_1266 rfl ?_
  refine Z_goto 1359 dl_1267 (by decide) ?_
  have hS := JS_lay hI hJ.2.2.2.2 h1f.2 h2f.2
  exact K h2 ⟨h2I, (JT_fr h2f.1 rfl (JT_fr h1f.1 rfl hJ.2.1)), (JA_fr h2f.1 rfl (JA_fr h1f.1 rfl hJ.2.2.1)), (JB_fr h2f.1 rfl (JB_fr h1f.1 rfl hJ.2.2.2.1)), hS.1⟩
theorem law_34 {b0 Ls : Nat} {xs : Nat → Int32} {h : Hp} {i : Int32} {I : Nat} (hL2 : Ls ≤ 320) (hi : i.toInt = I) (hL : I + 5 ≤ Ls) (hJ : J h) (K : ∀ h' : Hp, J h' → ZW b0 Ls xs h' 1359 (LZ i) []) : ZW b0 Ls xs h 1270 (LZ i) [] := by
  have hI : Inv h := hJ.1
  refine Z_aload_n 1 dl_1270 rfl rfl ?_
  refine Z_arg 1 (by decide) hi hL hL2 dl_1271 dl_1272 dl_1273 dl_1274 dl_1275 ?_
  refine Z_arg 2 (by decide) hi hL hL2 dl_1276 dl_1277 dl_1278 dl_1279 dl_1280 ?_
  refine Z_arg 3 (by decide) hi hL hL2 dl_1281 dl_1282 dl_1283 dl_1284 dl_1285 ?_
  refine Z_arg 4 (by decide) hi hL hL2 dl_1286 dl_1287 dl_1288 dl_1289 dl_1290 ?_
  refine Z_call [.int (xs (I + 1)), .int (xs (I + 2)), .int (xs (I + 3)), .int (xs (I + 4))] [] cv_law_157 sk_85 rfl dl_1291 rfl (Nat.le_of_ble_eq_true rfl) (by decide) (by decide) (c_Rod_readZ h hI _ _ rfl _ _ rfl _ _ rfl _ _ rfl _ _ rfl rfl _ _ rfl rfl _ _ rfl rfl _ _ rfl rfl _ _ rfl rfl _ _ rfl rfl _ _ rfl rfl _ _ rfl rfl _ _ rfl rfl _ _ rfl rfl _ _ rfl rfl _ _ rfl rfl) (fun _ h1 hq => ?_)
  obtain ⟨r1, rfl, h1I, h1f⟩ := hq
  refine Z_pop dl_1294 rfl ?_
  refine Z_aload_n 2 dl_1295 rfl rfl ?_
  refine Z_arg 1 (by decide) hi hL hL2 dl_1296 dl_1297 dl_1298 dl_1299 dl_1300 ?_
  refine Z_arg 2 (by decide) hi hL hL2 dl_1301 dl_1302 dl_1303 dl_1304 dl_1305 ?_
  refine Z_arg 3 (by decide) hi hL hL2 dl_1306 dl_1307 dl_1308 dl_1309 dl_1310 ?_
  refine Z_arg 4 (by decide) hi hL hL2 dl_1311 dl_1312 dl_1313 dl_1314 dl_1315 ?_
  refine Z_call [.int (xs (I + 1)), .int (xs (I + 2)), .int (xs (I + 3)), .int (xs (I + 4))] [] cv_law_160 sk_116 rfl dl_1316 rfl (Nat.le_of_ble_eq_true rfl) (by decide) (by decide) (c_Mod_readZ h1 h1I _ _ rfl _ _ rfl _ _ rfl _ _ rfl _ _ rfl rfl _ _ rfl rfl _ _ rfl rfl _ _ rfl rfl) (fun _ h2 hq => ?_)
  obtain ⟨r2, rfl, h2I, h2f⟩ := hq
  refine Z_pop dl_1319 rfl ?_
  refine Z_goto 1359 dl_1320 (by decide) ?_
  have wg := wg16 hI
  have w0 : h1.1 116 2 = h.1 1 0 := (h1f.1.1 116 2 rfl).trans (JA_wh hJ.2.2.1 (i := 0) (by decide)).symm
  have w1 : h1.1 116 3 = h.1 1 1 := (h1f.1.1 116 3 rfl).trans (JA_wh hJ.2.2.1 (i := 1) (by decide)).symm
  have E2 := h2f.2
  rw [w0, w1] at E2
  have hB := JB_read hI hJ.2.2.1 hJ.2.2.2.1 hJ.2.2.2.2 h1f.1 h2f.1 rfl rfl rfl wg.2 (fun q => by (first | decide +kernel | omega)) h1f.2 E2
  exact K h2 ⟨h2I, (JT_fr h2f.1 rfl (JT_fr h1f.1 rfl hJ.2.1)), (JA_nA h2f.1 rfl (nA_RD E2) (JA_cA h1f.1 rfl (cA_RD h1f.2) hJ.2.2.1)), hB.1, (JS_fr h2f.1 rfl (JS_fr h1f.1 rfl hJ.2.2.2.2))⟩
theorem law_35 {b0 Ls : Nat} {xs : Nat → Int32} {h : Hp} {i : Int32} {I : Nat} (hL2 : Ls ≤ 320) (hi : i.toInt = I) (hL : I + 5 ≤ Ls) (hJ : J h) (K : ∀ h' : Hp, J h' → ZW b0 Ls xs h' 1359 (LZ i) []) : ZW b0 Ls xs h 1323 (LZ i) [] := by
  have hI : Inv h := hJ.1
  refine Z_aload_n 1 dl_1323 rfl rfl ?_
  refine Z_call [] [] cv_law_161 sk_85 rfl dl_1324 rfl (Nat.le_of_ble_eq_true rfl) (by decide) (by decide) (c_Rod_torn h hI) (fun _ h1 hq => ?_)
  obtain ⟨r1, rfl, r1e⟩ := hq
  subst r1e
  refine Z_pop dl_1327 rfl ?_
  refine Z_aload_n 2 dl_1328 rfl rfl ?_
  refine Z_call [] [] cv_law_164 sk_116 rfl dl_1329 rfl (Nat.le_of_ble_eq_true rfl) (by decide) (by decide) (c_Mod_torn h hI) (fun _ h2 hq => ?_)
  obtain ⟨r2, rfl, r2e⟩ := hq
  subst r2e
  refine Z_pop dl_1332 rfl ?_
  refine Z_goto 1359 dl_1333 (by decide) ?_
  exact K h ⟨hI, hJ.2.1, hJ.2.2.1, hJ.2.2.2.1, hJ.2.2.2.2⟩
theorem law_36 {b0 Ls : Nat} {xs : Nat → Int32} {h : Hp} {i : Int32} {I : Nat} (hL2 : Ls ≤ 320) (hi : i.toInt = I) (hL : I + 5 ≤ Ls) (hJ : J h) (K : ∀ h' : Hp, J h' → ZW b0 Ls xs h' 1359 (LZ i) []) : ZW b0 Ls xs h 1336 (LZ i) [] := by
  have hI : Inv h := hJ.1
  refine Z_aload_n 1 dl_1336 rfl rfl ?_
  refine Z_arg 1 (by decide) hi hL hL2 dl_1337 dl_1338 dl_1339 dl_1340 dl_1341 ?_
  refine Z_call [.int (xs (I + 1))] [] cv_law_165 sk_85 rfl dl_1342 rfl (Nat.le_of_ble_eq_true rfl) (by decide) (by decide) (c_Rod_countX h hI _ _ rfl _ _ rfl rfl _ _ rfl rfl) (fun _ h1 hq => ?_)
  obtain ⟨r1, rfl, r1e⟩ := hq
  obtain ⟨rfl, r1E⟩ := r1e
  refine Z_pop dl_1345 rfl ?_
  refine Z_aload_n 2 dl_1346 rfl rfl ?_
  refine Z_arg 1 (by decide) hi hL hL2 dl_1347 dl_1348 dl_1349 dl_1350 dl_1351 ?_
  refine Z_call [.int (xs (I + 1))] [] cv_law_168 sk_116 rfl dl_1352 rfl (Nat.le_of_ble_eq_true rfl) (by decide) (by decide) (c_Mod_countX h hI _ _ rfl _ _ rfl rfl _ _ rfl rfl) (fun _ h2 hq => ?_)
  obtain ⟨r2, rfl, r2e⟩ := hq
  obtain ⟨rfl, r2E⟩ := r2e
  refine Z_pop dl_1355 rfl ?_
  refine Z_goto 1359 dl_1356 (by decide) ?_
  exact K h ⟨hI, hJ.2.1, hJ.2.2.1, hJ.2.2.2.1, hJ.2.2.2.2⟩
