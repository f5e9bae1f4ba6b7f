section
/-- what holds between two calls -/
def J (h : Hp) : Prop := Inv h ∧ JT h ∧ JA h ∧ JB h ∧ JS h ∧ JR h
theorem end_S1 {k i : Nat} (hk : jtC k i) (hn : k ≠ 89) : inS S_Rod_end k i = false := by
  unfold inS S_Rod_end
  rw [List.any_eq_false]
  intro q hq e
  rw [List.mem_singleton] at hq
  subst hq
  rw [Bool.and_eq_true] at e
  exact hn (eq_of_beq e.1).symm
theorem end_S2 {k i : Nat} (hk : jtC k i) (hn : ¬ (k = 116 ∧ i = 15)) : inS S_Mod_end k i = false := by
  unfold inS S_Mod_end
  rw [List.any_eq_false]
  intro q hq e
  rw [List.mem_singleton] at hq
  subst hq
  rw [Bool.and_eq_true] at e
  exact hn ⟨(eq_of_beq e.1).symm, (eq_of_beq e.2).symm⟩
theorem cb_Rod_feed : CB y_Rod_feed b_Rod_feed 2 (some .int) 1 := ⟨vv_Gin (List.mem_append_right _ (List.mem_append_right _ (List.mem_append_left _ (List.mem_of_getElem? (i := 150) rfl)))) rfl, by decide +kernel, vv_Gin (List.mem_append_right _ (List.mem_append_left _ (List.mem_of_getElem? (i := 1) rfl))) rfl⟩
theorem im_Rod_feed : Cond.instanceMethod y_Rod_feed ∈ vv_G := vv_Gin (List.mem_append_right _ (List.mem_append_right _ (List.mem_append_left _ (List.mem_of_getElem? (i := 148) rfl)))) rfl
theorem se_Rod_feed : Cond.selects y_Rod_feed.cls y_Rod_feed y_Rod_feed ∈ vv_G := vv_Gin (List.mem_append_right _ (List.mem_append_right _ (List.mem_append_left _ (List.mem_of_getElem? (i := 149) rfl)))) rfl
theorem cv_law_13 : CV R_law 13 y_Rod_feed b_Rod_feed 2 (some .int) 1 := ⟨cb_Rod_feed, im_Rod_feed, se_Rod_feed, vv_Gin (List.mem_append_right _ (List.mem_append_right _ (List.mem_append_left _ (List.mem_of_getElem? (i := 147) rfl)))) rfl⟩
theorem cb_Mod_feed : CB y_Mod_feed b_Mod_feed 2 (some .int) 1 := ⟨vv_Gin (List.mem_append_right _ (List.mem_append_right _ (List.mem_append_right _ (List.mem_append_right _ (List.mem_append_right _ (List.mem_append_left _ (List.mem_of_getElem? (i := 98) rfl))))))) rfl, by decide +kernel, vv_Gin (List.mem_append_right _ (List.mem_append_left _ (List.mem_of_getElem? (i := 13) rfl))) rfl⟩
theorem im_Mod_feed : Cond.instanceMethod y_Mod_feed ∈ vv_G := vv_Gin (List.mem_append_right _ (List.mem_append_right _ (List.mem_append_right _ (List.mem_append_right _ (List.mem_append_right _ (List.mem_append_left _ (List.mem_of_getElem? (i := 96) rfl))))))) rfl
theorem se_Mod_feed : Cond.selects y_Mod_feed.cls y_Mod_feed y_Mod_feed ∈ vv_G := vv_Gin (List.mem_append_right _ (List.mem_append_right _ (List.mem_append_right _ (List.mem_append_right _ (List.mem_append_right _ (List.mem_append_left _ (List.mem_of_getElem? (i := 97) rfl))))))) rfl
theorem cv_law_17 : CV R_law 17 y_Mod_feed b_Mod_feed 2 (some .int) 1 := ⟨cb_Mod_feed, im_Mod_feed, se_Mod_feed, vv_Gin (List.mem_append_right _ (List.mem_append_right _ (List.mem_append_right _ (List.mem_append_right _ (List.mem_append_right _ (List.mem_append_left _ (List.mem_of_getElem? (i := 95) rfl))))))) rfl⟩
theorem cb_Rod_end : CB y_Rod_end b_Rod_end 3 (some .int) 1 := ⟨vv_Gin (List.mem_append_right _ (List.mem_append_right _ (List.mem_append_left _ (List.mem_of_getElem? (i := 154) rfl)))) rfl, by decide +kernel, vv_Gin (List.mem_append_right _ (List.mem_append_left _ (List.mem_of_getElem? (i := 1) rfl))) rfl⟩
theorem im_Rod_end : Cond.instanceMethod y_Rod_end ∈ vv_G := vv_Gin (List.mem_append_right _ (List.mem_append_right _ (List.mem_append_left _ (List.mem_of_getElem? (i := 152) rfl)))) rfl
theorem se_Rod_end : Cond.selects y_Rod_end.cls y_Rod_end y_Rod_end ∈ vv_G := vv_Gin (List.mem_append_right _ (List.mem_append_right _ (List.mem_append_left _ (List.mem_of_getElem? (i := 153) rfl)))) rfl
theorem cv_law_18 : CV R_law 18 y_Rod_end b_Rod_end 3 (some .int) 1 := ⟨cb_Rod_end, im_Rod_end, se_Rod_end, vv_Gin (List.mem_append_right _ (List.mem_append_right _ (List.mem_append_left _ (List.mem_of_getElem? (i := 151) rfl)))) rfl⟩
theorem cb_Mod_end : CB y_Mod_end b_Mod_end 3 (some .int) 1 := ⟨vv_Gin (List.mem_append_right _ (List.mem_append_right _ (List.mem_append_right _ (List.mem_append_right _ (List.mem_append_right _ (List.mem_append_left _ (List.mem_of_getElem? (i := 106) rfl))))))) rfl, by decide +kernel, vv_Gin (List.mem_append_right _ (List.mem_append_left _ (List.mem_of_getElem? (i := 13) rfl))) rfl⟩
theorem im_Mod_end : Cond.instanceMethod y_Mod_end ∈ vv_G := vv_Gin (List.mem_append_right _ (List.mem_append_right _ (List.mem_append_right _ (List.mem_append_right _ (List.mem_append_right _ (List.mem_append_left _ (List.mem_of_getElem? (i := 104) rfl))))))) rfl
theorem se_Mod_end : Cond.selects y_Mod_end.cls y_Mod_end y_Mod_end ∈ vv_G := vv_Gin (List.mem_append_right _ (List.mem_append_right _ (List.mem_append_right _ (List.mem_append_right _ (List.mem_append_right _ (List.mem_append_left _ (List.mem_of_getElem? (i := 105) rfl))))))) rfl
theorem cv_law_21 : CV R_law 21 y_Mod_end b_Mod_end 3 (some .int) 1 := ⟨cb_Mod_end, im_Mod_end, se_Mod_end, vv_Gin (List.mem_append_right _ (List.mem_append_right _ (List.mem_append_right _ (List.mem_append_right _ (List.mem_append_right _ (List.mem_append_left _ (List.mem_of_getElem? (i := 103) rfl))))))) rfl⟩
theorem cb_Rod_text : CB y_Rod_text b_Rod_text 3 (some .int) 0 := ⟨vv_Gin (List.mem_append_right _ (List.mem_append_right _ (List.mem_append_left _ (List.mem_of_getElem? (i := 158) rfl)))) rfl, by decide +kernel, vv_Gin (List.mem_append_right _ (List.mem_append_left _ (List.mem_of_getElem? (i := 1) rfl))) rfl⟩
theorem im_Rod_text : Cond.instanceMethod y_Rod_text ∈ vv_G := vv_Gin (List.mem_append_right _ (List.mem_append_right _ (List.mem_append_left _ (List.mem_of_getElem? (i := 156) rfl)))) rfl
theorem se_Rod_text : Cond.selects y_Rod_text.cls y_Rod_text y_Rod_text ∈ vv_G := vv_Gin (List.mem_append_right _ (List.mem_append_right _ (List.mem_append_left _ (List.mem_of_getElem? (i := 157) rfl)))) rfl
theorem cv_law_22 : CV R_law 22 y_Rod_text b_Rod_text 3 (some .int) 0 := ⟨cb_Rod_text, im_Rod_text, se_Rod_text, vv_Gin (List.mem_append_right _ (List.mem_append_right _ (List.mem_append_left _ (List.mem_of_getElem? (i := 155) rfl)))) rfl⟩
theorem cb_Mod_text : CB y_Mod_text b_Mod_text 2 (some .int) 0 := ⟨vv_Gin (List.mem_append_right _ (List.mem_append_right _ (List.mem_append_right _ (List.mem_append_right _ (List.mem_append_right _ (List.mem_append_left _ (List.mem_of_getElem? (i := 110) rfl))))))) rfl, by decide +kernel, vv_Gin (List.mem_append_right _ (List.mem_append_left _ (List.mem_of_getElem? (i := 13) rfl))) rfl⟩
theorem im_Mod_text : Cond.instanceMethod y_Mod_text ∈ vv_G := vv_Gin (List.mem_append_right _ (List.mem_append_right _ (List.mem_append_right _ (List.mem_append_right _ (List.mem_append_right _ (List.mem_append_left _ (List.mem_of_getElem? (i := 108) rfl))))))) rfl
theorem se_Mod_text : Cond.selects y_Mod_text.cls y_Mod_text y_Mod_text ∈ vv_G := vv_Gin (List.mem_append_right _ (List.mem_append_right _ (List.mem_append_right _ (List.mem_append_right _ (List.mem_append_right _ (List.mem_append_left _ (List.mem_of_getElem? (i := 109) rfl))))))) rfl
theorem cv_law_26 : CV R_law 26 y_Mod_text b_Mod_text 2 (some .int) 0 := ⟨cb_Mod_text, im_Mod_text, se_Mod_text, vv_Gin (List.mem_append_right _ (List.mem_append_right _ (List.mem_append_right _ (List.mem_append_right _ (List.mem_append_right _ (List.mem_append_left _ (List.mem_of_getElem? (i := 107) rfl))))))) rfl⟩
theorem cb_Rod_fault : CB y_Rod_fault b_Rod_fault 1 (some .int) 0 := ⟨vv_Gin (List.mem_append_right _ (List.mem_append_right _ (List.mem_append_right _ (List.mem_append_left _ (List.mem_of_getElem? (i := 103) rfl))))) rfl, by decide +kernel, vv_Gin (List.mem_append_right _ (List.mem_append_left _ (List.mem_of_getElem? (i := 1) rfl))) rfl⟩
theorem im_Rod_fault : Cond.instanceMethod y_Rod_fault ∈ vv_G := vv_Gin (List.mem_append_right _ (List.mem_append_right _ (List.mem_append_right _ (List.mem_append_left _ (List.mem_of_getElem? (i := 101) rfl))))) rfl
theorem se_Rod_fault : Cond.selects y_Rod_fault.cls y_Rod_fault y_Rod_fault ∈ vv_G := vv_Gin (List.mem_append_right _ (List.mem_append_right _ (List.mem_append_right _ (List.mem_append_left _ (List.mem_of_getElem? (i := 102) rfl))))) rfl
theorem cv_law_27 : CV R_law 27 y_Rod_fault b_Rod_fault 1 (some .int) 0 := ⟨cb_Rod_fault, im_Rod_fault, se_Rod_fault, vv_Gin (List.mem_append_right _ (List.mem_append_right _ (List.mem_append_right _ (List.mem_append_left _ (List.mem_of_getElem? (i := 100) rfl))))) rfl⟩
theorem cb_Mod_fault : CB y_Mod_fault b_Mod_fault 1 (some .int) 0 := ⟨vv_Gin (List.mem_append_right _ (List.mem_append_right _ (List.mem_append_right _ (List.mem_append_right _ (List.mem_append_right _ (List.mem_append_left _ (List.mem_of_getElem? (i := 182) rfl))))))) rfl, by decide +kernel, vv_Gin (List.mem_append_right _ (List.mem_append_left _ (List.mem_of_getElem? (i := 13) rfl))) rfl⟩
theorem im_Mod_fault : Cond.instanceMethod y_Mod_fault ∈ vv_G := vv_Gin (List.mem_append_right _ (List.mem_append_right _ (List.mem_append_right _ (List.mem_append_right _ (List.mem_append_right _ (List.mem_append_left _ (List.mem_of_getElem? (i := 180) rfl))))))) rfl
theorem se_Mod_fault : Cond.selects y_Mod_fault.cls y_Mod_fault y_Mod_fault ∈ vv_G := vv_Gin (List.mem_append_right _ (List.mem_append_right _ (List.mem_append_right _ (List.mem_append_right _ (List.mem_append_right _ (List.mem_append_left _ (List.mem_of_getElem? (i := 181) rfl))))))) rfl
theorem cv_law_30 : CV R_law 30 y_Mod_fault b_Mod_fault 1 (some .int) 0 := ⟨cb_Mod_fault, im_Mod_fault, se_Mod_fault, vv_Gin (List.mem_append_right _ (List.mem_append_right _ (List.mem_append_right _ (List.mem_append_right _ (List.mem_append_right _ (List.mem_append_left _ (List.mem_of_getElem? (i := 179) rfl))))))) rfl⟩
theorem cb_Rod_rule : CB y_Rod_rule b_Rod_rule 2 (some .int) 1 := ⟨vv_Gin (List.mem_append_right _ (List.mem_append_right _ (List.mem_append_right _ (List.mem_append_left _ (List.mem_of_getElem? (i := 107) rfl))))) rfl, by decide +kernel, vv_Gin (List.mem_append_right _ (List.mem_append_left _ (List.mem_of_getElem? (i := 1) rfl))) rfl⟩
theorem im_Rod_rule : Cond.instanceMethod y_Rod_rule ∈ vv_G := vv_Gin (List.mem_append_right _ (List.mem_append_right _ (List.mem_append_right _ (List.mem_append_left _ (List.mem_of_getElem? (i := 105) rfl))))) rfl
theorem se_Rod_rule : Cond.selects y_Rod_rule.cls y_Rod_rule y_Rod_rule ∈ vv_G := vv_Gin (List.mem_append_right _ (List.mem_append_right _ (List.mem_append_right _ (List.mem_append_left _ (List.mem_of_getElem? (i := 106) rfl))))) rfl
theorem cv_law_31 : CV R_law 31 y_Rod_rule b_Rod_rule 2 (some .int) 1 := ⟨cb_Rod_rule, im_Rod_rule, se_Rod_rule, vv_Gin (List.mem_append_right _ (List.mem_append_right _ (List.mem_append_right _ (List.mem_append_left _ (List.mem_of_getElem? (i := 104) rfl))))) rfl⟩
theorem cb_Mod_rule : CB y_Mod_rule b_Mod_rule 2 (some .int) 1 := ⟨vv_Gin (List.mem_append_right _ (List.mem_append_right _ (List.mem_append_right _ (List.mem_append_right _ (List.mem_append_right _ (List.mem_append_left _ (List.mem_of_getElem? (i := 186) rfl))))))) rfl, by decide +kernel, vv_Gin (List.mem_append_right _ (List.mem_append_left _ (List.mem_of_getElem? (i := 13) rfl))) rfl⟩
theorem im_Mod_rule : Cond.instanceMethod y_Mod_rule ∈ vv_G := vv_Gin (List.mem_append_right _ (List.mem_append_right _ (List.mem_append_right _ (List.mem_append_right _ (List.mem_append_right _ (List.mem_append_left _ (List.mem_of_getElem? (i := 184) rfl))))))) rfl
theorem se_Mod_rule : Cond.selects y_Mod_rule.cls y_Mod_rule y_Mod_rule ∈ vv_G := vv_Gin (List.mem_append_right _ (List.mem_append_right _ (List.mem_append_right _ (List.mem_append_right _ (List.mem_append_right _ (List.mem_append_left _ (List.mem_of_getElem? (i := 185) rfl))))))) rfl
theorem cv_law_34 : CV R_law 34 y_Mod_rule b_Mod_rule 2 (some .int) 1 := ⟨cb_Mod_rule, im_Mod_rule, se_Mod_rule, vv_Gin (List.mem_append_right _ (List.mem_append_right _ (List.mem_append_right _ (List.mem_append_right _ (List.mem_append_right _ (List.mem_append_left _ (List.mem_of_getElem? (i := 183) rfl))))))) rfl⟩
theorem cb_Rod_cell : CB y_Rod_cell b_Rod_cell 4 (some .int) 2 := ⟨vv_Gin (List.mem_append_right _ (List.mem_append_right _ (List.mem_append_right _ (List.mem_append_left _ (List.mem_of_getElem? (i := 111) rfl))))) rfl, by decide +kernel, vv_Gin (List.mem_append_right _ (List.mem_append_left _ (List.mem_of_getElem? (i := 1) rfl))) rfl⟩
theorem im_Rod_cell : Cond.instanceMethod y_Rod_cell ∈ vv_G := vv_Gin (List.mem_append_right _ (List.mem_append_right _ (List.mem_append_right _ (List.mem_append_left _ (List.mem_of_getElem? (i := 109) rfl))))) rfl
theorem se_Rod_cell : Cond.selects y_Rod_cell.cls y_Rod_cell y_Rod_cell ∈ vv_G := vv_Gin (List.mem_append_right _ (List.mem_append_right _ (List.mem_append_right _ (List.mem_append_left _ (List.mem_of_getElem? (i := 110) rfl))))) rfl
theorem cv_law_35 : CV R_law 35 y_Rod_cell b_Rod_cell 4 (some .int) 2 := ⟨cb_Rod_cell, im_Rod_cell, se_Rod_cell, vv_Gin (List.mem_append_right _ (List.mem_append_right _ (List.mem_append_right _ (List.mem_append_left _ (List.mem_of_getElem? (i := 108) rfl))))) rfl⟩
theorem cb_Mod_cell : CB y_Mod_cell b_Mod_cell 3 (some .int) 2 := ⟨vv_Gin (List.mem_append_right _ (List.mem_append_right _ (List.mem_append_right _ (List.mem_append_right _ (List.mem_append_right _ (List.mem_append_left _ (List.mem_of_getElem? (i := 190) rfl))))))) rfl, by decide +kernel, vv_Gin (List.mem_append_right _ (List.mem_append_left _ (List.mem_of_getElem? (i := 13) rfl))) rfl⟩
theorem im_Mod_cell : Cond.instanceMethod y_Mod_cell ∈ vv_G := vv_Gin (List.mem_append_right _ (List.mem_append_right _ (List.mem_append_right _ (List.mem_append_right _ (List.mem_append_right _ (List.mem_append_left _ (List.mem_of_getElem? (i := 188) rfl))))))) rfl
theorem se_Mod_cell : Cond.selects y_Mod_cell.cls y_Mod_cell y_Mod_cell ∈ vv_G := vv_Gin (List.mem_append_right _ (List.mem_append_right _ (List.mem_append_right _ (List.mem_append_right _ (List.mem_append_right _ (List.mem_append_left _ (List.mem_of_getElem? (i := 189) rfl))))))) rfl
theorem cv_law_39 : CV R_law 39 y_Mod_cell b_Mod_cell 3 (some .int) 2 := ⟨cb_Mod_cell, im_Mod_cell, se_Mod_cell, vv_Gin (List.mem_append_right _ (List.mem_append_right _ (List.mem_append_right _ (List.mem_append_right _ (List.mem_append_right _ (List.mem_append_left _ (List.mem_of_getElem? (i := 187) rfl))))))) rfl⟩
theorem cb_Rod_purse : CB y_Rod_purse b_Rod_purse 2 (some .int) 1 := ⟨vv_Gin (List.mem_append_right _ (List.mem_append_right _ (List.mem_append_right _ (List.mem_append_left _ (List.mem_of_getElem? (i := 126) rfl))))) rfl, by decide +kernel, vv_Gin (List.mem_append_right _ (List.mem_append_left _ (List.mem_of_getElem? (i := 1) rfl))) rfl⟩
theorem im_Rod_purse : Cond.instanceMethod y_Rod_purse ∈ vv_G := vv_Gin (List.mem_append_right _ (List.mem_append_right _ (List.mem_append_right _ (List.mem_append_left _ (List.mem_of_getElem? (i := 124) rfl))))) rfl
theorem se_Rod_purse : Cond.selects y_Rod_purse.cls y_Rod_purse y_Rod_purse ∈ vv_G := vv_Gin (List.mem_append_right _ (List.mem_append_right _ (List.mem_append_right _ (List.mem_append_left _ (List.mem_of_getElem? (i := 125) rfl))))) rfl
theorem cv_law_40 : CV R_law 40 y_Rod_purse b_Rod_purse 2 (some .int) 1 := ⟨cb_Rod_purse, im_Rod_purse, se_Rod_purse, vv_Gin (List.mem_append_right _ (List.mem_append_right _ (List.mem_append_right _ (List.mem_append_left _ (List.mem_of_getElem? (i := 123) rfl))))) rfl⟩
theorem cb_Mod_purse : CB y_Mod_purse b_Mod_purse 2 (some .int) 1 := ⟨vv_Gin (List.mem_append_right _ (List.mem_append_right _ (List.mem_append_right _ (List.mem_append_right _ (List.mem_append_right _ (List.mem_append_left _ (List.mem_of_getElem? (i := 213) rfl))))))) rfl, by decide +kernel, vv_Gin (List.mem_append_right _ (List.mem_append_left _ (List.mem_of_getElem? (i := 13) rfl))) rfl⟩
theorem im_Mod_purse : Cond.instanceMethod y_Mod_purse ∈ vv_G := vv_Gin (List.mem_append_right _ (List.mem_append_right _ (List.mem_append_right _ (List.mem_append_right _ (List.mem_append_right _ (List.mem_append_left _ (List.mem_of_getElem? (i := 211) rfl))))))) rfl
theorem se_Mod_purse : Cond.selects y_Mod_purse.cls y_Mod_purse y_Mod_purse ∈ vv_G := vv_Gin (List.mem_append_right _ (List.mem_append_right _ (List.mem_append_right _ (List.mem_append_right _ (List.mem_append_right _ (List.mem_append_left _ (List.mem_of_getElem? (i := 212) rfl))))))) rfl
theorem cv_law_43 : CV R_law 43 y_Mod_purse b_Mod_purse 2 (some .int) 1 := ⟨cb_Mod_purse, im_Mod_purse, se_Mod_purse, vv_Gin (List.mem_append_right _ (List.mem_append_right _ (List.mem_append_right _ (List.mem_append_right _ (List.mem_append_right _ (List.mem_append_left _ (List.mem_of_getElem? (i := 210) rfl))))))) rfl⟩
theorem cb_Rod_wet : CB y_Rod_wet b_Rod_wet 5 (some .int) 2 := ⟨vv_Gin (List.mem_append_right _ (List.mem_append_right _ (List.mem_append_right _ (List.mem_append_left _ (List.mem_of_getElem? (i := 133) rfl))))) rfl, by decide +kernel, vv_Gin (List.mem_append_right _ (List.mem_append_left _ (List.mem_of_getElem? (i := 1) rfl))) rfl⟩
theorem im_Rod_wet : Cond.instanceMethod y_Rod_wet ∈ vv_G := vv_Gin (List.mem_append_right _ (List.mem_append_right _ (List.mem_append_right _ (List.mem_append_left _ (List.mem_of_getElem? (i := 131) rfl))))) rfl
theorem se_Rod_wet : Cond.selects y_Rod_wet.cls y_Rod_wet y_Rod_wet ∈ vv_G := vv_Gin (List.mem_append_right _ (List.mem_append_right _ (List.mem_append_right _ (List.mem_append_left _ (List.mem_of_getElem? (i := 132) rfl))))) rfl
theorem cv_law_44 : CV R_law 44 y_Rod_wet b_Rod_wet 5 (some .int) 2 := ⟨cb_Rod_wet, im_Rod_wet, se_Rod_wet, vv_Gin (List.mem_append_right _ (List.mem_append_right _ (List.mem_append_right _ (List.mem_append_left _ (List.mem_of_getElem? (i := 130) rfl))))) rfl⟩
theorem cb_Mod_wet : CB y_Mod_wet b_Mod_wet 3 (some .int) 2 := ⟨vv_Gin (List.mem_append_right _ (List.mem_append_right _ (List.mem_append_right _ (List.mem_append_right _ (List.mem_append_right _ (List.mem_append_left _ (List.mem_of_getElem? (i := 221) rfl))))))) rfl, by decide +kernel, vv_Gin (List.mem_append_right _ (List.mem_append_left _ (List.mem_of_getElem? (i := 13) rfl))) rfl⟩
theorem im_Mod_wet : Cond.instanceMethod y_Mod_wet ∈ vv_G := vv_Gin (List.mem_append_right _ (List.mem_append_right _ (List.mem_append_right _ (List.mem_append_right _ (List.mem_append_right _ (List.mem_append_left _ (List.mem_of_getElem? (i := 219) rfl))))))) rfl
theorem se_Mod_wet : Cond.selects y_Mod_wet.cls y_Mod_wet y_Mod_wet ∈ vv_G := vv_Gin (List.mem_append_right _ (List.mem_append_right _ (List.mem_append_right _ (List.mem_append_right _ (List.mem_append_right _ (List.mem_append_left _ (List.mem_of_getElem? (i := 220) rfl))))))) rfl
theorem cv_law_47 : CV R_law 47 y_Mod_wet b_Mod_wet 3 (some .int) 2 := ⟨cb_Mod_wet, im_Mod_wet, se_Mod_wet, vv_Gin (List.mem_append_right _ (List.mem_append_right _ (List.mem_append_right _ (List.mem_append_right _ (List.mem_append_right _ (List.mem_append_left _ (List.mem_of_getElem? (i := 218) rfl))))))) rfl⟩
theorem cb_Rod_iron : CB y_Rod_iron b_Rod_iron 5 (some .int) 2 := ⟨vv_Gin (List.mem_append_right _ (List.mem_append_right _ (List.mem_append_right _ (List.mem_append_left _ (List.mem_of_getElem? (i := 137) rfl))))) rfl, by decide +kernel, vv_Gin (List.mem_append_right _ (List.mem_append_left _ (List.mem_of_getElem? (i := 1) rfl))) rfl⟩
theorem im_Rod_iron : Cond.instanceMethod y_Rod_iron ∈ vv_G := vv_Gin (List.mem_append_right _ (List.mem_append_right _ (List.mem_append_right _ (List.mem_append_left _ (List.mem_of_getElem? (i := 135) rfl))))) rfl
theorem se_Rod_iron : Cond.selects y_Rod_iron.cls y_Rod_iron y_Rod_iron ∈ vv_G := vv_Gin (List.mem_append_right _ (List.mem_append_right _ (List.mem_append_right _ (List.mem_append_left _ (List.mem_of_getElem? (i := 136) rfl))))) rfl
theorem cv_law_48 : CV R_law 48 y_Rod_iron b_Rod_iron 5 (some .int) 2 := ⟨cb_Rod_iron, im_Rod_iron, se_Rod_iron, vv_Gin (List.mem_append_right _ (List.mem_append_right _ (List.mem_append_right _ (List.mem_append_left _ (List.mem_of_getElem? (i := 134) rfl))))) rfl⟩
theorem cb_Mod_iron : CB y_Mod_iron b_Mod_iron 3 (some .int) 2 := ⟨vv_Gin (List.mem_append_right _ (List.mem_append_right _ (List.mem_append_right _ (List.mem_append_right _ (List.mem_append_right _ (List.mem_append_left _ (List.mem_of_getElem? (i := 230) rfl))))))) rfl, by decide +kernel, vv_Gin (List.mem_append_right _ (List.mem_append_left _ (List.mem_of_getElem? (i := 13) rfl))) rfl⟩
theorem im_Mod_iron : Cond.instanceMethod y_Mod_iron ∈ vv_G := vv_Gin (List.mem_append_right _ (List.mem_append_right _ (List.mem_append_right _ (List.mem_append_right _ (List.mem_append_right _ (List.mem_append_left _ (List.mem_of_getElem? (i := 228) rfl))))))) rfl
theorem se_Mod_iron : Cond.selects y_Mod_iron.cls y_Mod_iron y_Mod_iron ∈ vv_G := vv_Gin (List.mem_append_right _ (List.mem_append_right _ (List.mem_append_right _ (List.mem_append_right _ (List.mem_append_right _ (List.mem_append_left _ (List.mem_of_getElem? (i := 229) rfl))))))) rfl
theorem cv_law_52 : CV R_law 52 y_Mod_iron b_Mod_iron 3 (some .int) 2 := ⟨cb_Mod_iron, im_Mod_iron, se_Mod_iron, vv_Gin (List.mem_append_right _ (List.mem_append_right _ (List.mem_append_right _ (List.mem_append_right _ (List.mem_append_right _ (List.mem_append_left _ (List.mem_of_getElem? (i := 227) rfl))))))) rfl⟩
theorem cb_Rod_odd : CB y_Rod_odd b_Rod_odd 5 (some .int) 2 := ⟨vv_Gin (List.mem_append_right _ (List.mem_append_right _ (List.mem_append_right _ (List.mem_append_left _ (List.mem_of_getElem? (i := 141) rfl))))) rfl, by decide +kernel, vv_Gin (List.mem_append_right _ (List.mem_append_left _ (List.mem_of_getElem? (i := 1) rfl))) rfl⟩
theorem im_Rod_odd : Cond.instanceMethod y_Rod_odd ∈ vv_G := vv_Gin (List.mem_append_right _ (List.mem_append_right _ (List.mem_append_right _ (List.mem_append_left _ (List.mem_of_getElem? (i := 139) rfl))))) rfl
theorem se_Rod_odd : Cond.selects y_Rod_odd.cls y_Rod_odd y_Rod_odd ∈ vv_G := vv_Gin (List.mem_append_right _ (List.mem_append_right _ (List.mem_append_right _ (List.mem_append_left _ (List.mem_of_getElem? (i := 140) rfl))))) rfl
theorem cv_law_53 : CV R_law 53 y_Rod_odd b_Rod_odd 5 (some .int) 2 := ⟨cb_Rod_odd, im_Rod_odd, se_Rod_odd, vv_Gin (List.mem_append_right _ (List.mem_append_right _ (List.mem_append_right _ (List.mem_append_left _ (List.mem_of_getElem? (i := 138) rfl))))) rfl⟩
theorem cb_Mod_odd : CB y_Mod_odd b_Mod_odd 3 (some .int) 2 := ⟨vv_Gin (List.mem_append_right _ (List.mem_append_right _ (List.mem_append_right _ (List.mem_append_right _ (List.mem_append_right _ (List.mem_append_left _ (List.mem_of_getElem? (i := 234) rfl))))))) rfl, by decide +kernel, vv_Gin (List.mem_append_right _ (List.mem_append_left _ (List.mem_of_getElem? (i := 13) rfl))) rfl⟩
theorem im_Mod_odd : Cond.instanceMethod y_Mod_odd ∈ vv_G := vv_Gin (List.mem_append_right _ (List.mem_append_right _ (List.mem_append_right _ (List.mem_append_right _ (List.mem_append_right _ (List.mem_append_left _ (List.mem_of_getElem? (i := 232) rfl))))))) rfl
theorem se_Mod_odd : Cond.selects y_Mod_odd.cls y_Mod_odd y_Mod_odd ∈ vv_G := vv_Gin (List.mem_append_right _ (List.mem_append_right _ (List.mem_append_right _ (List.mem_append_right _ (List.mem_append_right _ (List.mem_append_left _ (List.mem_of_getElem? (i := 233) rfl))))))) rfl
theorem cv_law_56 : CV R_law 56 y_Mod_odd b_Mod_odd 3 (some .int) 2 := ⟨cb_Mod_odd, im_Mod_odd, se_Mod_odd, vv_Gin (List.mem_append_right _ (List.mem_append_right _ (List.mem_append_right _ (List.mem_append_right _ (List.mem_append_right _ (List.mem_append_left _ (List.mem_of_getElem? (i := 231) rfl))))))) rfl⟩
theorem cb_Rod_claim : CB y_Rod_claim b_Rod_claim 5 (some .int) 2 := ⟨vv_Gin (List.mem_append_right _ (List.mem_append_right _ (List.mem_append_right _ (List.mem_append_left _ (List.mem_of_getElem? (i := 145) rfl))))) rfl, by decide +kernel, vv_Gin (List.mem_append_right _ (List.mem_append_left _ (List.mem_of_getElem? (i := 1) rfl))) rfl⟩
theorem im_Rod_claim : Cond.instanceMethod y_Rod_claim ∈ vv_G := vv_Gin (List.mem_append_right _ (List.mem_append_right _ (List.mem_append_right _ (List.mem_append_left _ (List.mem_of_getElem? (i := 143) rfl))))) rfl
theorem se_Rod_claim : Cond.selects y_Rod_claim.cls y_Rod_claim y_Rod_claim ∈ vv_G := vv_Gin (List.mem_append_right _ (List.mem_append_right _ (List.mem_append_right _ (List.mem_append_left _ (List.mem_of_getElem? (i := 144) rfl))))) rfl
theorem cv_law_57 : CV R_law 57 y_Rod_claim b_Rod_claim 5 (some .int) 2 := ⟨cb_Rod_claim, im_Rod_claim, se_Rod_claim, vv_Gin (List.mem_append_right _ (List.mem_append_right _ (List.mem_append_right _ (List.mem_append_left _ (List.mem_of_getElem? (i := 142) rfl))))) rfl⟩
theorem cb_Mod_claim : CB y_Mod_claim b_Mod_claim 3 (some .int) 2 := ⟨vv_Gin (List.mem_append_right _ (List.mem_append_right _ (List.mem_append_right _ (List.mem_append_right _ (List.mem_append_right _ (List.mem_append_left _ (List.mem_of_getElem? (i := 239) rfl))))))) rfl, by decide +kernel, vv_Gin (List.mem_append_right _ (List.mem_append_left _ (List.mem_of_getElem? (i := 13) rfl))) rfl⟩
theorem im_Mod_claim : Cond.instanceMethod y_Mod_claim ∈ vv_G := vv_Gin (List.mem_append_right _ (List.mem_append_right _ (List.mem_append_right _ (List.mem_append_right _ (List.mem_append_right _ (List.mem_append_left _ (List.mem_of_getElem? (i := 237) rfl))))))) rfl
theorem se_Mod_claim : Cond.selects y_Mod_claim.cls y_Mod_claim y_Mod_claim ∈ vv_G := vv_Gin (List.mem_append_right _ (List.mem_append_right _ (List.mem_append_right _ (List.mem_append_right _ (List.mem_append_right _ (List.mem_append_left _ (List.mem_of_getElem? (i := 238) rfl))))))) rfl
theorem cv_law_60 : CV R_law 60 y_Mod_claim b_Mod_claim 3 (some .int) 2 := ⟨cb_Mod_claim, im_Mod_claim, se_Mod_claim, vv_Gin (List.mem_append_right _ (List.mem_append_right _ (List.mem_append_right _ (List.mem_append_right _ (List.mem_append_right _ (List.mem_append_left _ (List.mem_of_getElem? (i := 236) rfl))))))) rfl⟩
theorem cb_Rod_fund : CB y_Rod_fund b_Rod_fund 4 (some .int) 2 := ⟨vv_Gin (List.mem_append_right _ (List.mem_append_right _ (List.mem_append_right _ (List.mem_append_left _ (List.mem_of_getElem? (i := 149) rfl))))) rfl, by decide +kernel, vv_Gin (List.mem_append_right _ (List.mem_append_left _ (List.mem_of_getElem? (i := 1) rfl))) rfl⟩
theorem im_Rod_fund : Cond.instanceMethod y_Rod_fund ∈ vv_G := vv_Gin (List.mem_append_right _ (List.mem_append_right _ (List.mem_append_right _ (List.mem_append_left _ (List.mem_of_getElem? (i := 147) rfl))))) rfl
theorem se_Rod_fund : Cond.selects y_Rod_fund.cls y_Rod_fund y_Rod_fund ∈ vv_G := vv_Gin (List.mem_append_right _ (List.mem_append_right _ (List.mem_append_right _ (List.mem_append_left _ (List.mem_of_getElem? (i := 148) rfl))))) rfl
theorem cv_law_61 : CV R_law 61 y_Rod_fund b_Rod_fund 4 (some .int) 2 := ⟨cb_Rod_fund, im_Rod_fund, se_Rod_fund, vv_Gin (List.mem_append_right _ (List.mem_append_right _ (List.mem_append_right _ (List.mem_append_left _ (List.mem_of_getElem? (i := 146) rfl))))) rfl⟩
theorem cb_Mod_fund : CB y_Mod_fund b_Mod_fund 3 (some .int) 2 := ⟨vv_Gin (List.mem_append_right _ (List.mem_append_right _ (List.mem_append_right _ (List.mem_append_right _ (List.mem_append_right _ (List.mem_append_right _ (List.mem_of_getElem? (i := 3) rfl))))))) rfl, by decide +kernel, vv_Gin (List.mem_append_right _ (List.mem_append_left _ (List.mem_of_getElem? (i := 13) rfl))) rfl⟩
theorem im_Mod_fund : Cond.instanceMethod y_Mod_fund ∈ vv_G := vv_Gin (List.mem_append_right _ (List.mem_append_right _ (List.mem_append_right _ (List.mem_append_right _ (List.mem_append_right _ (List.mem_append_right _ (List.mem_of_getElem? (i := 1) rfl))))))) rfl
theorem se_Mod_fund : Cond.selects y_Mod_fund.cls y_Mod_fund y_Mod_fund ∈ vv_G := vv_Gin (List.mem_append_right _ (List.mem_append_right _ (List.mem_append_right _ (List.mem_append_right _ (List.mem_append_right _ (List.mem_append_right _ (List.mem_of_getElem? (i := 2) rfl))))))) rfl
theorem cv_law_64 : CV R_law 64 y_Mod_fund b_Mod_fund 3 (some .int) 2 := ⟨cb_Mod_fund, im_Mod_fund, se_Mod_fund, vv_Gin (List.mem_append_right _ (List.mem_append_right _ (List.mem_append_right _ (List.mem_append_right _ (List.mem_append_right _ (List.mem_append_right _ (List.mem_of_getElem? (i := 0) rfl))))))) rfl⟩
theorem cb_Rod_cut : CB y_Rod_cut b_Rod_cut 4 (some .int) 2 := ⟨vv_Gin (List.mem_append_right _ (List.mem_append_right _ (List.mem_append_right _ (List.mem_append_left _ (List.mem_of_getElem? (i := 153) rfl))))) rfl, by decide +kernel, vv_Gin (List.mem_append_right _ (List.mem_append_left _ (List.mem_of_getElem? (i := 1) rfl))) rfl⟩
theorem im_Rod_cut : Cond.instanceMethod y_Rod_cut ∈ vv_G := vv_Gin (List.mem_append_right _ (List.mem_append_right _ (List.mem_append_right _ (List.mem_append_left _ (List.mem_of_getElem? (i := 151) rfl))))) rfl
theorem se_Rod_cut : Cond.selects y_Rod_cut.cls y_Rod_cut y_Rod_cut ∈ vv_G := vv_Gin (List.mem_append_right _ (List.mem_append_right _ (List.mem_append_right _ (List.mem_append_left _ (List.mem_of_getElem? (i := 152) rfl))))) rfl
theorem cv_law_65 : CV R_law 65 y_Rod_cut b_Rod_cut 4 (some .int) 2 := ⟨cb_Rod_cut, im_Rod_cut, se_Rod_cut, vv_Gin (List.mem_append_right _ (List.mem_append_right _ (List.mem_append_right _ (List.mem_append_left _ (List.mem_of_getElem? (i := 150) rfl))))) rfl⟩
theorem cb_Mod_cut : CB y_Mod_cut b_Mod_cut 3 (some .int) 2 := ⟨vv_Gin (List.mem_append_right _ (List.mem_append_right _ (List.mem_append_right _ (List.mem_append_right _ (List.mem_append_right _ (List.mem_append_right _ (List.mem_of_getElem? (i := 8) rfl))))))) rfl, by decide +kernel, vv_Gin (List.mem_append_right _ (List.mem_append_left _ (List.mem_of_getElem? (i := 13) rfl))) rfl⟩
theorem im_Mod_cut : Cond.instanceMethod y_Mod_cut ∈ vv_G := vv_Gin (List.mem_append_right _ (List.mem_append_right _ (List.mem_append_right _ (List.mem_append_right _ (List.mem_append_right _ (List.mem_append_right _ (List.mem_of_getElem? (i := 6) rfl))))))) rfl
theorem se_Mod_cut : Cond.selects y_Mod_cut.cls y_Mod_cut y_Mod_cut ∈ vv_G := vv_Gin (List.mem_append_right _ (List.mem_append_right _ (List.mem_append_right _ (List.mem_append_right _ (List.mem_append_right _ (List.mem_append_right _ (List.mem_of_getElem? (i := 7) rfl))))))) rfl
theorem cv_law_68 : CV R_law 68 y_Mod_cut b_Mod_cut 3 (some .int) 2 := ⟨cb_Mod_cut, im_Mod_cut, se_Mod_cut, vv_Gin (List.mem_append_right _ (List.mem_append_right _ (List.mem_append_right _ (List.mem_append_right _ (List.mem_append_right _ (List.mem_append_right _ (List.mem_of_getElem? (i := 5) rfl))))))) rfl⟩
theorem cb_Rod_owe : CB y_Rod_owe b_Rod_owe 4 (some .int) 3 := ⟨vv_Gin (List.mem_append_right _ (List.mem_append_right _ (List.mem_append_right _ (List.mem_append_left _ (List.mem_of_getElem? (i := 160) rfl))))) rfl, by decide +kernel, vv_Gin (List.mem_append_right _ (List.mem_append_left _ (List.mem_of_getElem? (i := 1) rfl))) rfl⟩
theorem im_Rod_owe : Cond.instanceMethod y_Rod_owe ∈ vv_G := vv_Gin (List.mem_append_right _ (List.mem_append_right _ (List.mem_append_right _ (List.mem_append_left _ (List.mem_of_getElem? (i := 158) rfl))))) rfl
theorem se_Rod_owe : Cond.selects y_Rod_owe.cls y_Rod_owe y_Rod_owe ∈ vv_G := vv_Gin (List.mem_append_right _ (List.mem_append_right _ (List.mem_append_right _ (List.mem_append_left _ (List.mem_of_getElem? (i := 159) rfl))))) rfl
theorem cv_law_69 : CV R_law 69 y_Rod_owe b_Rod_owe 4 (some .int) 3 := ⟨cb_Rod_owe, im_Rod_owe, se_Rod_owe, vv_Gin (List.mem_append_right _ (List.mem_append_right _ (List.mem_append_right _ (List.mem_append_left _ (List.mem_of_getElem? (i := 157) rfl))))) rfl⟩
theorem cb_Mod_owe : CB y_Mod_owe b_Mod_owe 5 (some .int) 3 := ⟨vv_Gin (List.mem_append_right _ (List.mem_append_right _ (List.mem_append_right _ (List.mem_append_right _ (List.mem_append_right _ (List.mem_append_right _ (List.mem_of_getElem? (i := 13) rfl))))))) rfl, by decide +kernel, vv_Gin (List.mem_append_right _ (List.mem_append_left _ (List.mem_of_getElem? (i := 13) rfl))) rfl⟩
theorem im_Mod_owe : Cond.instanceMethod y_Mod_owe ∈ vv_G := vv_Gin (List.mem_append_right _ (List.mem_append_right _ (List.mem_append_right _ (List.mem_append_right _ (List.mem_append_right _ (List.mem_append_right _ (List.mem_of_getElem? (i := 11) rfl))))))) rfl
theorem se_Mod_owe : Cond.selects y_Mod_owe.cls y_Mod_owe y_Mod_owe ∈ vv_G := vv_Gin (List.mem_append_right _ (List.mem_append_right _ (List.mem_append_right _ (List.mem_append_right _ (List.mem_append_right _ (List.mem_append_right _ (List.mem_of_getElem? (i := 12) rfl))))))) rfl
theorem cv_law_73 : CV R_law 73 y_Mod_owe b_Mod_owe 5 (some .int) 3 := ⟨cb_Mod_owe, im_Mod_owe, se_Mod_owe, vv_Gin (List.mem_append_right _ (List.mem_append_right _ (List.mem_append_right _ (List.mem_append_right _ (List.mem_append_right _ (List.mem_append_right _ (List.mem_of_getElem? (i := 10) rfl))))))) rfl⟩
theorem cb_Rod_pay : CB y_Rod_pay b_Rod_pay 3 (some .int) 1 := ⟨vv_Gin (List.mem_append_right _ (List.mem_append_right _ (List.mem_append_right _ (List.mem_append_left _ (List.mem_of_getElem? (i := 165) rfl))))) rfl, by decide +kernel, vv_Gin (List.mem_append_right _ (List.mem_append_left _ (List.mem_of_getElem? (i := 1) rfl))) rfl⟩
theorem im_Rod_pay : Cond.instanceMethod y_Rod_pay ∈ vv_G := vv_Gin (List.mem_append_right _ (List.mem_append_right _ (List.mem_append_right _ (List.mem_append_left _ (List.mem_of_getElem? (i := 163) rfl))))) rfl
theorem se_Rod_pay : Cond.selects y_Rod_pay.cls y_Rod_pay y_Rod_pay ∈ vv_G := vv_Gin (List.mem_append_right _ (List.mem_append_right _ (List.mem_append_right _ (List.mem_append_left _ (List.mem_of_getElem? (i := 164) rfl))))) rfl
theorem cv_law_74 : CV R_law 74 y_Rod_pay b_Rod_pay 3 (some .int) 1 := ⟨cb_Rod_pay, im_Rod_pay, se_Rod_pay, vv_Gin (List.mem_append_right _ (List.mem_append_right _ (List.mem_append_right _ (List.mem_append_left _ (List.mem_of_getElem? (i := 162) rfl))))) rfl⟩
theorem cb_Mod_pay : CB y_Mod_pay b_Mod_pay 2 (some .int) 1 := ⟨vv_Gin (List.mem_append_right _ (List.mem_append_right _ (List.mem_append_right _ (List.mem_append_right _ (List.mem_append_right _ (List.mem_append_right _ (List.mem_of_getElem? (i := 18) rfl))))))) rfl, by decide +kernel, vv_Gin (List.mem_append_right _ (List.mem_append_left _ (List.mem_of_getElem? (i := 13) rfl))) rfl⟩
theorem im_Mod_pay : Cond.instanceMethod y_Mod_pay ∈ vv_G := vv_Gin (List.mem_append_right _ (List.mem_append_right _ (List.mem_append_right _ (List.mem_append_right _ (List.mem_append_right _ (List.mem_append_right _ (List.mem_of_getElem? (i := 16) rfl))))))) rfl
theorem se_Mod_pay : Cond.selects y_Mod_pay.cls y_Mod_pay y_Mod_pay ∈ vv_G := vv_Gin (List.mem_append_right _ (List.mem_append_right _ (List.mem_append_right _ (List.mem_append_right _ (List.mem_append_right _ (List.mem_append_right _ (List.mem_of_getElem? (i := 17) rfl))))))) rfl
theorem cv_law_77 : CV R_law 77 y_Mod_pay b_Mod_pay 2 (some .int) 1 := ⟨cb_Mod_pay, im_Mod_pay, se_Mod_pay, vv_Gin (List.mem_append_right _ (List.mem_append_right _ (List.mem_append_right _ (List.mem_append_right _ (List.mem_append_right _ (List.mem_append_right _ (List.mem_of_getElem? (i := 15) rfl))))))) rfl⟩
theorem cb_Rod_rain : CB y_Rod_rain b_Rod_rain 2 (some .int) 1 := ⟨vv_Gin (List.mem_append_right _ (List.mem_append_right _ (List.mem_append_right _ (List.mem_append_left _ (List.mem_of_getElem? (i := 169) rfl))))) rfl, by decide +kernel, vv_Gin (List.mem_append_right _ (List.mem_append_left _ (List.mem_of_getElem? (i := 1) rfl))) rfl⟩
theorem im_Rod_rain : Cond.instanceMethod y_Rod_rain ∈ vv_G := vv_Gin (List.mem_append_right _ (List.mem_append_right _ (List.mem_append_right _ (List.mem_append_left _ (List.mem_of_getElem? (i := 167) rfl))))) rfl
theorem se_Rod_rain : Cond.selects y_Rod_rain.cls y_Rod_rain y_Rod_rain ∈ vv_G := vv_Gin (List.mem_append_right _ (List.mem_append_right _ (List.mem_append_right _ (List.mem_append_left _ (List.mem_of_getElem? (i := 168) rfl))))) rfl
theorem cv_law_78 : CV R_law 78 y_Rod_rain b_Rod_rain 2 (some .int) 1 := ⟨cb_Rod_rain, im_Rod_rain, se_Rod_rain, vv_Gin (List.mem_append_right _ (List.mem_append_right _ (List.mem_append_right _ (List.mem_append_left _ (List.mem_of_getElem? (i := 166) rfl))))) rfl⟩
theorem cb_Mod_rain : CB y_Mod_rain b_Mod_rain 4 (some .int) 1 := ⟨vv_Gin (List.mem_append_right _ (List.mem_append_right _ (List.mem_append_right _ (List.mem_append_right _ (List.mem_append_right _ (List.mem_append_right _ (List.mem_of_getElem? (i := 22) rfl))))))) rfl, by decide +kernel, vv_Gin (List.mem_append_right _ (List.mem_append_left _ (List.mem_of_getElem? (i := 13) rfl))) rfl⟩
theorem im_Mod_rain : Cond.instanceMethod y_Mod_rain ∈ vv_G := vv_Gin (List.mem_append_right _ (List.mem_append_right _ (List.mem_append_right _ (List.mem_append_right _ (List.mem_append_right _ (List.mem_append_right _ (List.mem_of_getElem? (i := 20) rfl))))))) rfl
theorem se_Mod_rain : Cond.selects y_Mod_rain.cls y_Mod_rain y_Mod_rain ∈ vv_G := vv_Gin (List.mem_append_right _ (List.mem_append_right _ (List.mem_append_right _ (List.mem_append_right _ (List.mem_append_right _ (List.mem_append_right _ (List.mem_of_getElem? (i := 21) rfl))))))) rfl
theorem cv_law_81 : CV R_law 81 y_Mod_rain b_Mod_rain 4 (some .int) 1 := ⟨cb_Mod_rain, im_Mod_rain, se_Mod_rain, vv_Gin (List.mem_append_right _ (List.mem_append_right _ (List.mem_append_right _ (List.mem_append_right _ (List.mem_append_right _ (List.mem_append_right _ (List.mem_of_getElem? (i := 19) rfl))))))) rfl⟩
theorem cb_Rod_twitch : CB y_Rod_twitch b_Rod_twitch 4 (some .int) 3 := ⟨vv_Gin (List.mem_append_right _ (List.mem_append_right _ (List.mem_append_right _ (List.mem_append_left _ (List.mem_of_getElem? (i := 195) rfl))))) rfl, by decide +kernel, vv_Gin (List.mem_append_right _ (List.mem_append_left _ (List.mem_of_getElem? (i := 1) rfl))) rfl⟩
theorem im_Rod_twitch : Cond.instanceMethod y_Rod_twitch ∈ vv_G := vv_Gin (List.mem_append_right _ (List.mem_append_right _ (List.mem_append_right _ (List.mem_append_left _ (List.mem_of_getElem? (i := 193) rfl))))) rfl
theorem se_Rod_twitch : Cond.selects y_Rod_twitch.cls y_Rod_twitch y_Rod_twitch ∈ vv_G := vv_Gin (List.mem_append_right _ (List.mem_append_right _ (List.mem_append_right _ (List.mem_append_left _ (List.mem_of_getElem? (i := 194) rfl))))) rfl
theorem cv_law_82 : CV R_law 82 y_Rod_twitch b_Rod_twitch 4 (some .int) 3 := ⟨cb_Rod_twitch, im_Rod_twitch, se_Rod_twitch, vv_Gin (List.mem_append_right _ (List.mem_append_right _ (List.mem_append_right _ (List.mem_append_left _ (List.mem_of_getElem? (i := 192) rfl))))) rfl⟩
theorem cb_Mod_twitch : CB y_Mod_twitch b_Mod_twitch 4 (some .int) 3 := ⟨vv_Gin (List.mem_append_right _ (List.mem_append_right _ (List.mem_append_right _ (List.mem_append_right _ (List.mem_append_right _ (List.mem_append_right _ (List.mem_of_getElem? (i := 31) rfl))))))) rfl, by decide +kernel, vv_Gin (List.mem_append_right _ (List.mem_append_left _ (List.mem_of_getElem? (i := 13) rfl))) rfl⟩
theorem im_Mod_twitch : Cond.instanceMethod y_Mod_twitch ∈ vv_G := vv_Gin (List.mem_append_right _ (List.mem_append_right _ (List.mem_append_right _ (List.mem_append_right _ (List.mem_append_right _ (List.mem_append_right _ (List.mem_of_getElem? (i := 29) rfl))))))) rfl
theorem se_Mod_twitch : Cond.selects y_Mod_twitch.cls y_Mod_twitch y_Mod_twitch ∈ vv_G := vv_Gin (List.mem_append_right _ (List.mem_append_right _ (List.mem_append_right _ (List.mem_append_right _ (List.mem_append_right _ (List.mem_append_right _ (List.mem_of_getElem? (i := 30) rfl))))))) rfl
theorem cv_law_85 : CV R_law 85 y_Mod_twitch b_Mod_twitch 4 (some .int) 3 := ⟨cb_Mod_twitch, im_Mod_twitch, se_Mod_twitch, vv_Gin (List.mem_append_right _ (List.mem_append_right _ (List.mem_append_right _ (List.mem_append_right _ (List.mem_append_right _ (List.mem_append_right _ (List.mem_of_getElem? (i := 28) rfl))))))) rfl⟩
theorem cb_Rod_see : CB y_Rod_see b_Rod_see 5 (some .int) 4 := ⟨vv_Gin (List.mem_append_right _ (List.mem_append_right _ (List.mem_append_right _ (List.mem_append_left _ (List.mem_of_getElem? (i := 211) rfl))))) rfl, by decide +kernel, vv_Gin (List.mem_append_right _ (List.mem_append_left _ (List.mem_of_getElem? (i := 1) rfl))) rfl⟩
theorem im_Rod_see : Cond.instanceMethod y_Rod_see ∈ vv_G := vv_Gin (List.mem_append_right _ (List.mem_append_right _ (List.mem_append_right _ (List.mem_append_left _ (List.mem_of_getElem? (i := 209) rfl))))) rfl
theorem se_Rod_see : Cond.selects y_Rod_see.cls y_Rod_see y_Rod_see ∈ vv_G := vv_Gin (List.mem_append_right _ (List.mem_append_right _ (List.mem_append_right _ (List.mem_append_left _ (List.mem_of_getElem? (i := 210) rfl))))) rfl
theorem cv_law_86 : CV R_law 86 y_Rod_see b_Rod_see 5 (some .int) 4 := ⟨cb_Rod_see, im_Rod_see, se_Rod_see, vv_Gin (List.mem_append_right _ (List.mem_append_right _ (List.mem_append_right _ (List.mem_append_left _ (List.mem_of_getElem? (i := 208) rfl))))) rfl⟩
theorem cb_Mod_see : CB y_Mod_see b_Mod_see 6 (some .int) 4 := ⟨vv_Gin (List.mem_append_right _ (List.mem_append_right _ (List.mem_append_right _ (List.mem_append_right _ (List.mem_append_right _ (List.mem_append_right _ (List.mem_of_getElem? (i := 43) rfl))))))) rfl, by decide +kernel, vv_Gin (List.mem_append_right _ (List.mem_append_left _ (List.mem_of_getElem? (i := 13) rfl))) rfl⟩
theorem im_Mod_see : Cond.instanceMethod y_Mod_see ∈ vv_G := vv_Gin (List.mem_append_right _ (List.mem_append_right _ (List.mem_append_right _ (List.mem_append_right _ (List.mem_append_right _ (List.mem_append_right _ (List.mem_of_getElem? (i := 41) rfl))))))) rfl
theorem se_Mod_see : Cond.selects y_Mod_see.cls y_Mod_see y_Mod_see ∈ vv_G := vv_Gin (List.mem_append_right _ (List.mem_append_right _ (List.mem_append_right _ (List.mem_append_right _ (List.mem_append_right _ (List.mem_append_right _ (List.mem_of_getElem? (i := 42) rfl))))))) rfl
theorem cv_law_90 : CV R_law 90 y_Mod_see b_Mod_see 6 (some .int) 4 := ⟨cb_Mod_see, im_Mod_see, se_Mod_see, vv_Gin (List.mem_append_right _ (List.mem_append_right _ (List.mem_append_right _ (List.mem_append_right _ (List.mem_append_right _ (List.mem_append_right _ (List.mem_of_getElem? (i := 40) rfl))))))) rfl⟩
theorem cb_Rod_forget : CB y_Rod_forget b_Rod_forget 3 (some .int) 1 := ⟨vv_Gin (List.mem_append_right _ (List.mem_append_right _ (List.mem_append_right _ (List.mem_append_left _ (List.mem_of_getElem? (i := 219) rfl))))) rfl, by decide +kernel, vv_Gin (List.mem_append_right _ (List.mem_append_left _ (List.mem_of_getElem? (i := 1) rfl))) rfl⟩
theorem im_Rod_forget : Cond.instanceMethod y_Rod_forget ∈ vv_G := vv_Gin (List.mem_append_right _ (List.mem_append_right _ (List.mem_append_right _ (List.mem_append_left _ (List.mem_of_getElem? (i := 217) rfl))))) rfl
theorem se_Rod_forget : Cond.selects y_Rod_forget.cls y_Rod_forget y_Rod_forget ∈ vv_G := vv_Gin (List.mem_append_right _ (List.mem_append_right _ (List.mem_append_right _ (List.mem_append_left _ (List.mem_of_getElem? (i := 218) rfl))))) rfl
theorem cv_law_91 : CV R_law 91 y_Rod_forget b_Rod_forget 3 (some .int) 1 := ⟨cb_Rod_forget, im_Rod_forget, se_Rod_forget, vv_Gin (List.mem_append_right _ (List.mem_append_right _ (List.mem_append_right _ (List.mem_append_left _ (List.mem_of_getElem? (i := 216) rfl))))) rfl⟩
theorem cb_Mod_forget : CB y_Mod_forget b_Mod_forget 2 (some .int) 1 := ⟨vv_Gin (List.mem_append_right _ (List.mem_append_right _ (List.mem_append_right _ (List.mem_append_right _ (List.mem_append_right _ (List.mem_append_right _ (List.mem_of_getElem? (i := 47) rfl))))))) rfl, by decide +kernel, vv_Gin (List.mem_append_right _ (List.mem_append_left _ (List.mem_of_getElem? (i := 13) rfl))) rfl⟩
theorem im_Mod_forget : Cond.instanceMethod y_Mod_forget ∈ vv_G := vv_Gin (List.mem_append_right _ (List.mem_append_right _ (List.mem_append_right _ (List.mem_append_right _ (List.mem_append_right _ (List.mem_append_right _ (List.mem_of_getElem? (i := 45) rfl))))))) rfl
theorem se_Mod_forget : Cond.selects y_Mod_forget.cls y_Mod_forget y_Mod_forget ∈ vv_G := vv_Gin (List.mem_append_right _ (List.mem_append_right _ (List.mem_append_right _ (List.mem_append_right _ (List.mem_append_right _ (List.mem_append_right _ (List.mem_of_getElem? (i := 46) rfl))))))) rfl
theorem cv_law_94 : CV R_law 94 y_Mod_forget b_Mod_forget 2 (some .int) 1 := ⟨cb_Mod_forget, im_Mod_forget, se_Mod_forget, vv_Gin (List.mem_append_right _ (List.mem_append_right _ (List.mem_append_right _ (List.mem_append_right _ (List.mem_append_right _ (List.mem_append_right _ (List.mem_of_getElem? (i := 44) rfl))))))) rfl⟩
theorem cb_Rod_natures : CB y_Rod_natures b_Rod_natures 4 (some .int) 0 := ⟨vv_Gin (List.mem_append_right _ (List.mem_append_right _ (List.mem_append_right _ (List.mem_append_left _ (List.mem_of_getElem? (i := 223) rfl))))) rfl, by decide +kernel, vv_Gin (List.mem_append_right _ (List.mem_append_left _ (List.mem_of_getElem? (i := 1) rfl))) rfl⟩
theorem im_Rod_natures : Cond.instanceMethod y_Rod_natures ∈ vv_G := vv_Gin (List.mem_append_right _ (List.mem_append_right _ (List.mem_append_right _ (List.mem_append_left _ (List.mem_of_getElem? (i := 221) rfl))))) rfl
theorem se_Rod_natures : Cond.selects y_Rod_natures.cls y_Rod_natures y_Rod_natures ∈ vv_G := vv_Gin (List.mem_append_right _ (List.mem_append_right _ (List.mem_append_right _ (List.mem_append_left _ (List.mem_of_getElem? (i := 222) rfl))))) rfl
theorem cv_law_95 : CV R_law 95 y_Rod_natures b_Rod_natures 4 (some .int) 0 := ⟨cb_Rod_natures, im_Rod_natures, se_Rod_natures, vv_Gin (List.mem_append_right _ (List.mem_append_right _ (List.mem_append_right _ (List.mem_append_left _ (List.mem_of_getElem? (i := 220) rfl))))) rfl⟩
theorem cb_Mod_natures : CB y_Mod_natures b_Mod_natures 4 (some .int) 0 := ⟨vv_Gin (List.mem_append_right _ (List.mem_append_right _ (List.mem_append_right _ (List.mem_append_right _ (List.mem_append_right _ (List.mem_append_right _ (List.mem_of_getElem? (i := 51) rfl))))))) rfl, by decide +kernel, vv_Gin (List.mem_append_right _ (List.mem_append_left _ (List.mem_of_getElem? (i := 13) rfl))) rfl⟩
theorem im_Mod_natures : Cond.instanceMethod y_Mod_natures ∈ vv_G := vv_Gin (List.mem_append_right _ (List.mem_append_right _ (List.mem_append_right _ (List.mem_append_right _ (List.mem_append_right _ (List.mem_append_right _ (List.mem_of_getElem? (i := 49) rfl))))))) rfl
theorem se_Mod_natures : Cond.selects y_Mod_natures.cls y_Mod_natures y_Mod_natures ∈ vv_G := vv_Gin (List.mem_append_right _ (List.mem_append_right _ (List.mem_append_right _ (List.mem_append_right _ (List.mem_append_right _ (List.mem_append_right _ (List.mem_of_getElem? (i := 50) rfl))))))) rfl
theorem cv_law_98 : CV R_law 98 y_Mod_natures b_Mod_natures 4 (some .int) 0 := ⟨cb_Mod_natures, im_Mod_natures, se_Mod_natures, vv_Gin (List.mem_append_right _ (List.mem_append_right _ (List.mem_append_right _ (List.mem_append_right _ (List.mem_append_right _ (List.mem_append_right _ (List.mem_of_getElem? (i := 48) rfl))))))) rfl⟩
theorem cb_Rod_reaches : CB y_Rod_reaches b_Rod_reaches 5 (some .int) 1 := ⟨vv_Gin (List.mem_append_right _ (List.mem_append_right _ (List.mem_append_right _ (List.mem_append_right _ (List.mem_append_left _ (List.mem_of_getElem? (i := 4) rfl)))))) rfl, by decide +kernel, vv_Gin (List.mem_append_right _ (List.mem_append_left _ (List.mem_of_getElem? (i := 1) rfl))) rfl⟩
theorem im_Rod_reaches : Cond.instanceMethod y_Rod_reaches ∈ vv_G := vv_Gin (List.mem_append_right _ (List.mem_append_right _ (List.mem_append_right _ (List.mem_append_right _ (List.mem_append_left _ (List.mem_of_getElem? (i := 2) rfl)))))) rfl
theorem se_Rod_reaches : Cond.selects y_Rod_reaches.cls y_Rod_reaches y_Rod_reaches ∈ vv_G := vv_Gin (List.mem_append_right _ (List.mem_append_right _ (List.mem_append_right _ (List.mem_append_right _ (List.mem_append_left _ (List.mem_of_getElem? (i := 3) rfl)))))) rfl
theorem cv_law_99 : CV R_law 99 y_Rod_reaches b_Rod_reaches 5 (some .int) 1 := ⟨cb_Rod_reaches, im_Rod_reaches, se_Rod_reaches, vv_Gin (List.mem_append_right _ (List.mem_append_right _ (List.mem_append_right _ (List.mem_append_right _ (List.mem_append_left _ (List.mem_of_getElem? (i := 1) rfl)))))) rfl⟩
theorem cb_Mod_reaches : CB y_Mod_reaches b_Mod_reaches 4 (some .int) 1 := ⟨vv_Gin (List.mem_append_right _ (List.mem_append_right _ (List.mem_append_right _ (List.mem_append_right _ (List.mem_append_right _ (List.mem_append_right _ (List.mem_of_getElem? (i := 62) rfl))))))) rfl, by decide +kernel, vv_Gin (List.mem_append_right _ (List.mem_append_left _ (List.mem_of_getElem? (i := 13) rfl))) rfl⟩
theorem im_Mod_reaches : Cond.instanceMethod y_Mod_reaches ∈ vv_G := vv_Gin (List.mem_append_right _ (List.mem_append_right _ (List.mem_append_right _ (List.mem_append_right _ (List.mem_append_right _ (List.mem_append_right _ (List.mem_of_getElem? (i := 60) rfl))))))) rfl
theorem se_Mod_reaches : Cond.selects y_Mod_reaches.cls y_Mod_reaches y_Mod_reaches ∈ vv_G := vv_Gin (List.mem_append_right _ (List.mem_append_right _ (List.mem_append_right _ (List.mem_append_right _ (List.mem_append_right _ (List.mem_append_right _ (List.mem_of_getElem? (i := 61) rfl))))))) rfl
theorem cv_law_102 : CV R_law 102 y_Mod_reaches b_Mod_reaches 4 (some .int) 1 := ⟨cb_Mod_reaches, im_Mod_reaches, se_Mod_reaches, vv_Gin (List.mem_append_right _ (List.mem_append_right _ (List.mem_append_right _ (List.mem_append_right _ (List.mem_append_right _ (List.mem_append_right _ (List.mem_of_getElem? (i := 59) rfl))))))) rfl⟩
theorem cb_Rod_test : CB y_Rod_test b_Rod_test 11 (some .int) 2 := ⟨vv_Gin (List.mem_append_right _ (List.mem_append_right _ (List.mem_append_right _ (List.mem_append_right _ (List.mem_append_left _ (List.mem_of_getElem? (i := 12) rfl)))))) rfl, by decide +kernel, vv_Gin (List.mem_append_right _ (List.mem_append_left _ (List.mem_of_getElem? (i := 1) rfl))) rfl⟩
theorem im_Rod_test : Cond.instanceMethod y_Rod_test ∈ vv_G := vv_Gin (List.mem_append_right _ (List.mem_append_right _ (List.mem_append_right _ (List.mem_append_right _ (List.mem_append_left _ (List.mem_of_getElem? (i := 10) rfl)))))) rfl
theorem se_Rod_test : Cond.selects y_Rod_test.cls y_Rod_test y_Rod_test ∈ vv_G := vv_Gin (List.mem_append_right _ (List.mem_append_right _ (List.mem_append_right _ (List.mem_append_right _ (List.mem_append_left _ (List.mem_of_getElem? (i := 11) rfl)))))) rfl
theorem cv_law_103 : CV R_law 103 y_Rod_test b_Rod_test 11 (some .int) 2 := ⟨cb_Rod_test, im_Rod_test, se_Rod_test, vv_Gin (List.mem_append_right _ (List.mem_append_right _ (List.mem_append_right _ (List.mem_append_right _ (List.mem_append_left _ (List.mem_of_getElem? (i := 9) rfl)))))) rfl⟩
theorem cb_Mod_test : CB y_Mod_test b_Mod_test 10 (some .int) 2 := ⟨vv_Gin (List.mem_append_right _ (List.mem_append_right _ (List.mem_append_right _ (List.mem_append_right _ (List.mem_append_right _ (List.mem_append_right _ (List.mem_of_getElem? (i := 66) rfl))))))) rfl, by decide +kernel, vv_Gin (List.mem_append_right _ (List.mem_append_left _ (List.mem_of_getElem? (i := 13) rfl))) rfl⟩
theorem im_Mod_test : Cond.instanceMethod y_Mod_test ∈ vv_G := vv_Gin (List.mem_append_right _ (List.mem_append_right _ (List.mem_append_right _ (List.mem_append_right _ (List.mem_append_right _ (List.mem_append_right _ (List.mem_of_getElem? (i := 64) rfl))))))) rfl
theorem se_Mod_test : Cond.selects y_Mod_test.cls y_Mod_test y_Mod_test ∈ vv_G := vv_Gin (List.mem_append_right _ (List.mem_append_right _ (List.mem_append_right _ (List.mem_append_right _ (List.mem_append_right _ (List.mem_append_right _ (List.mem_of_getElem? (i := 65) rfl))))))) rfl
theorem cv_law_106 : CV R_law 106 y_Mod_test b_Mod_test 10 (some .int) 2 := ⟨cb_Mod_test, im_Mod_test, se_Mod_test, vv_Gin (List.mem_append_right _ (List.mem_append_right _ (List.mem_append_right _ (List.mem_append_right _ (List.mem_append_right _ (List.mem_append_right _ (List.mem_of_getElem? (i := 63) rfl))))))) rfl⟩
theorem cb_Rod_show : CB y_Rod_show b_Rod_show 5 (some .int) 4 := ⟨vv_Gin (List.mem_append_right _ (List.mem_append_right _ (List.mem_append_right _ (List.mem_append_right _ (List.mem_append_left _ (List.mem_of_getElem? (i := 20) rfl)))))) rfl, by decide +kernel, vv_Gin (List.mem_append_right _ (List.mem_append_left _ (List.mem_of_getElem? (i := 1) rfl))) rfl⟩
theorem im_Rod_show : Cond.instanceMethod y_Rod_show ∈ vv_G := vv_Gin (List.mem_append_right _ (List.mem_append_right _ (List.mem_append_right _ (List.mem_append_right _ (List.mem_append_left _ (List.mem_of_getElem? (i := 18) rfl)))))) rfl
theorem se_Rod_show : Cond.selects y_Rod_show.cls y_Rod_show y_Rod_show ∈ vv_G := vv_Gin (List.mem_append_right _ (List.mem_append_right _ (List.mem_append_right _ (List.mem_append_right _ (List.mem_append_left _ (List.mem_of_getElem? (i := 19) rfl)))))) rfl
theorem cv_law_107 : CV R_law 107 y_Rod_show b_Rod_show 5 (some .int) 4 := ⟨cb_Rod_show, im_Rod_show, se_Rod_show, vv_Gin (List.mem_append_right _ (List.mem_append_right _ (List.mem_append_right _ (List.mem_append_right _ (List.mem_append_left _ (List.mem_of_getElem? (i := 17) rfl)))))) rfl⟩
theorem cb_Mod_show : CB y_Mod_show b_Mod_show 7 (some .int) 4 := ⟨vv_Gin (List.mem_append_right _ (List.mem_append_right _ (List.mem_append_right _ (List.mem_append_right _ (List.mem_append_right _ (List.mem_append_right _ (List.mem_of_getElem? (i := 74) rfl))))))) rfl, by decide +kernel, vv_Gin (List.mem_append_right _ (List.mem_append_left _ (List.mem_of_getElem? (i := 13) rfl))) rfl⟩
theorem im_Mod_show : Cond.instanceMethod y_Mod_show ∈ vv_G := vv_Gin (List.mem_append_right _ (List.mem_append_right _ (List.mem_append_right _ (List.mem_append_right _ (List.mem_append_right _ (List.mem_append_right _ (List.mem_of_getElem? (i := 72) rfl))))))) rfl
theorem se_Mod_show : Cond.selects y_Mod_show.cls y_Mod_show y_Mod_show ∈ vv_G := vv_Gin (List.mem_append_right _ (List.mem_append_right _ (List.mem_append_right _ (List.mem_append_right _ (List.mem_append_right _ (List.mem_append_right _ (List.mem_of_getElem? (i := 73) rfl))))))) rfl
theorem cv_law_111 : CV R_law 111 y_Mod_show b_Mod_show 7 (some .int) 4 := ⟨cb_Mod_show, im_Mod_show, se_Mod_show, vv_Gin (List.mem_append_right _ (List.mem_append_right _ (List.mem_append_right _ (List.mem_append_right _ (List.mem_append_right _ (List.mem_append_right _ (List.mem_of_getElem? (i := 71) rfl))))))) rfl⟩
theorem cb_Rod_bore : CB y_Rod_bore b_Rod_bore 4 (some .int) 3 := ⟨vv_Gin (List.mem_append_right _ (List.mem_append_right _ (List.mem_append_right _ (List.mem_append_right _ (List.mem_append_left _ (List.mem_of_getElem? (i := 46) rfl)))))) rfl, by decide +kernel, vv_Gin (List.mem_append_right _ (List.mem_append_left _ (List.mem_of_getElem? (i := 1) rfl))) rfl⟩
theorem im_Rod_bore : Cond.instanceMethod y_Rod_bore ∈ vv_G := vv_Gin (List.mem_append_right _ (List.mem_append_right _ (List.mem_append_right _ (List.mem_append_right _ (List.mem_append_left _ (List.mem_of_getElem? (i := 44) rfl)))))) rfl
theorem se_Rod_bore : Cond.selects y_Rod_bore.cls y_Rod_bore y_Rod_bore ∈ vv_G := vv_Gin (List.mem_append_right _ (List.mem_append_right _ (List.mem_append_right _ (List.mem_append_right _ (List.mem_append_left _ (List.mem_of_getElem? (i := 45) rfl)))))) rfl
theorem cv_law_112 : CV R_law 112 y_Rod_bore b_Rod_bore 4 (some .int) 3 := ⟨cb_Rod_bore, im_Rod_bore, se_Rod_bore, vv_Gin (List.mem_append_right _ (List.mem_append_right _ (List.mem_append_right _ (List.mem_append_right _ (List.mem_append_left _ (List.mem_of_getElem? (i := 43) rfl)))))) rfl⟩
theorem cv_law_115 : CV R_law 115 y_Mod_bore b_Mod_bore 9 (some .int) 3 := ⟨cb_Mod_bore, im_Mod_bore, se_Mod_bore, vv_Gin (List.mem_append_right _ (List.mem_append_right _ (List.mem_append_right _ (List.mem_append_right _ (List.mem_append_right _ (List.mem_append_right _ (List.mem_of_getElem? (i := 92) rfl))))))) rfl⟩
theorem cb_Rod_plan : CB y_Rod_plan b_Rod_plan 5 (some .long) 4 := ⟨vv_Gin (List.mem_append_right _ (List.mem_append_right _ (List.mem_append_right _ (List.mem_append_right _ (List.mem_append_left _ (List.mem_of_getElem? (i := 62) rfl)))))) rfl, by decide +kernel, vv_Gin (List.mem_append_right _ (List.mem_append_left _ (List.mem_of_getElem? (i := 1) rfl))) rfl⟩
theorem im_Rod_plan : Cond.instanceMethod y_Rod_plan ∈ vv_G := vv_Gin (List.mem_append_right _ (List.mem_append_right _ (List.mem_append_right _ (List.mem_append_right _ (List.mem_append_left _ (List.mem_of_getElem? (i := 60) rfl)))))) rfl
theorem se_Rod_plan : Cond.selects y_Rod_plan.cls y_Rod_plan y_Rod_plan ∈ vv_G := vv_Gin (List.mem_append_right _ (List.mem_append_right _ (List.mem_append_right _ (List.mem_append_right _ (List.mem_append_left _ (List.mem_of_getElem? (i := 61) rfl)))))) rfl
theorem cv_law_116 : CV R_law 116 y_Rod_plan b_Rod_plan 5 (some .long) 4 := ⟨cb_Rod_plan, im_Rod_plan, se_Rod_plan, vv_Gin (List.mem_append_right _ (List.mem_append_right _ (List.mem_append_right _ (List.mem_append_right _ (List.mem_append_left _ (List.mem_of_getElem? (i := 59) rfl)))))) rfl⟩
theorem cb_Mod_plan : CB y_Mod_plan b_Mod_plan 7 (some .long) 4 := ⟨vv_Gin (List.mem_append_right _ (List.mem_append_right _ (List.mem_append_right _ (List.mem_append_right _ (List.mem_append_right _ (List.mem_append_right _ (List.mem_of_getElem? (i := 99) rfl))))))) rfl, by decide +kernel, vv_Gin (List.mem_append_right _ (List.mem_append_left _ (List.mem_of_getElem? (i := 13) rfl))) rfl⟩
theorem im_Mod_plan : Cond.instanceMethod y_Mod_plan ∈ vv_G := vv_Gin (List.mem_append_right _ (List.mem_append_right _ (List.mem_append_right _ (List.mem_append_right _ (List.mem_append_right _ (List.mem_append_right _ (List.mem_of_getElem? (i := 97) rfl))))))) rfl
theorem se_Mod_plan : Cond.selects y_Mod_plan.cls y_Mod_plan y_Mod_plan ∈ vv_G := vv_Gin (List.mem_append_right _ (List.mem_append_right _ (List.mem_append_right _ (List.mem_append_right _ (List.mem_append_right _ (List.mem_append_right _ (List.mem_of_getElem? (i := 98) rfl))))))) rfl
theorem cv_law_120 : CV R_law 120 y_Mod_plan b_Mod_plan 7 (some .long) 4 := ⟨cb_Mod_plan, im_Mod_plan, se_Mod_plan, vv_Gin (List.mem_append_right _ (List.mem_append_right _ (List.mem_append_right _ (List.mem_append_right _ (List.mem_append_right _ (List.mem_append_right _ (List.mem_of_getElem? (i := 96) rfl))))))) rfl⟩
theorem cb_Rod_beds : CB y_Rod_beds b_Rod_beds 2 (some .int) 1 := ⟨vv_Gin (List.mem_append_right _ (List.mem_append_right _ (List.mem_append_right _ (List.mem_append_right _ (List.mem_append_left _ (List.mem_of_getElem? (i := 90) rfl)))))) rfl, by decide +kernel, vv_Gin (List.mem_append_right _ (List.mem_append_left _ (List.mem_of_getElem? (i := 1) rfl))) rfl⟩
theorem im_Rod_beds : Cond.instanceMethod y_Rod_beds ∈ vv_G := vv_Gin (List.mem_append_right _ (List.mem_append_right _ (List.mem_append_right _ (List.mem_append_right _ (List.mem_append_left _ (List.mem_of_getElem? (i := 88) rfl)))))) rfl
theorem se_Rod_beds : Cond.selects y_Rod_beds.cls y_Rod_beds y_Rod_beds ∈ vv_G := vv_Gin (List.mem_append_right _ (List.mem_append_right _ (List.mem_append_right _ (List.mem_append_right _ (List.mem_append_left _ (List.mem_of_getElem? (i := 89) rfl)))))) rfl
theorem cv_law_121 : CV R_law 121 y_Rod_beds b_Rod_beds 2 (some .int) 1 := ⟨cb_Rod_beds, im_Rod_beds, se_Rod_beds, vv_Gin (List.mem_append_right _ (List.mem_append_right _ (List.mem_append_right _ (List.mem_append_right _ (List.mem_append_left _ (List.mem_of_getElem? (i := 87) rfl)))))) rfl⟩
theorem cb_Mod_beds : CB y_Mod_beds b_Mod_beds 8 (some .int) 1 := ⟨vv_Gin (List.mem_append_right _ (List.mem_append_right _ (List.mem_append_right _ (List.mem_append_right _ (List.mem_append_right _ (List.mem_append_right _ (List.mem_of_getElem? (i := 122) rfl))))))) rfl, by decide +kernel, vv_Gin (List.mem_append_right _ (List.mem_append_left _ (List.mem_of_getElem? (i := 13) rfl))) rfl⟩
theorem im_Mod_beds : Cond.instanceMethod y_Mod_beds ∈ vv_G := vv_Gin (List.mem_append_right _ (List.mem_append_right _ (List.mem_append_right _ (List.mem_append_right _ (List.mem_append_right _ (List.mem_append_right _ (List.mem_of_getElem? (i := 120) rfl))))))) rfl
theorem se_Mod_beds : Cond.selects y_Mod_beds.cls y_Mod_beds y_Mod_beds ∈ vv_G := vv_Gin (List.mem_append_right _ (List.mem_append_right _ (List.mem_append_right _ (List.mem_append_right _ (List.mem_append_right _ (List.mem_append_right _ (List.mem_of_getElem? (i := 121) rfl))))))) rfl
theorem cv_law_124 : CV R_law 124 y_Mod_beds b_Mod_beds 8 (some .int) 1 := ⟨cb_Mod_beds, im_Mod_beds, se_Mod_beds, vv_Gin (List.mem_append_right _ (List.mem_append_right _ (List.mem_append_right _ (List.mem_append_right _ (List.mem_append_right _ (List.mem_append_right _ (List.mem_of_getElem? (i := 119) rfl))))))) rfl⟩
theorem cb_Rod_next : CB y_Rod_next b_Rod_next 9 (some .int) 2 := ⟨vv_Gin (List.mem_append_right _ (List.mem_append_right _ (List.mem_append_right _ (List.mem_append_right _ (List.mem_append_left _ (List.mem_of_getElem? (i := 117) rfl)))))) rfl, by decide +kernel, vv_Gin (List.mem_append_right _ (List.mem_append_left _ (List.mem_of_getElem? (i := 1) rfl))) rfl⟩
theorem im_Rod_next : Cond.instanceMethod y_Rod_next ∈ vv_G := vv_Gin (List.mem_append_right _ (List.mem_append_right _ (List.mem_append_right _ (List.mem_append_right _ (List.mem_append_left _ (List.mem_of_getElem? (i := 115) rfl)))))) rfl
theorem se_Rod_next : Cond.selects y_Rod_next.cls y_Rod_next y_Rod_next ∈ vv_G := vv_Gin (List.mem_append_right _ (List.mem_append_right _ (List.mem_append_right _ (List.mem_append_right _ (List.mem_append_left _ (List.mem_of_getElem? (i := 116) rfl)))))) rfl
theorem cv_law_125 : CV R_law 125 y_Rod_next b_Rod_next 9 (some .int) 2 := ⟨cb_Rod_next, im_Rod_next, se_Rod_next, vv_Gin (List.mem_append_right _ (List.mem_append_right _ (List.mem_append_right _ (List.mem_append_right _ (List.mem_append_left _ (List.mem_of_getElem? (i := 114) rfl)))))) rfl⟩
theorem cb_Mod_next_ : CB y_Mod_next_ b_Mod_next_ 9 (some .int) 2 := ⟨vv_Gin (List.mem_append_right _ (List.mem_append_right _ (List.mem_append_right _ (List.mem_append_right _ (List.mem_append_right _ (List.mem_append_right _ (List.mem_of_getElem? (i := 138) rfl))))))) rfl, by decide +kernel, vv_Gin (List.mem_append_right _ (List.mem_append_left _ (List.mem_of_getElem? (i := 13) rfl))) rfl⟩
theorem im_Mod_next_ : Cond.instanceMethod y_Mod_next_ ∈ vv_G := vv_Gin (List.mem_append_right _ (List.mem_append_right _ (List.mem_append_right _ (List.mem_append_right _ (List.mem_append_right _ (List.mem_append_right _ (List.mem_of_getElem? (i := 136) rfl))))))) rfl
theorem se_Mod_next_ : Cond.selects y_Mod_next_.cls y_Mod_next_ y_Mod_next_ ∈ vv_G := vv_Gin (List.mem_append_right _ (List.mem_append_right _ (List.mem_append_right _ (List.mem_append_right _ (List.mem_append_right _ (List.mem_append_right _ (List.mem_of_getElem? (i := 137) rfl))))))) rfl
theorem cv_law_128 : CV R_law 128 y_Mod_next_ b_Mod_next_ 9 (some .int) 2 := ⟨cb_Mod_next_, im_Mod_next_, se_Mod_next_, vv_Gin (List.mem_append_right _ (List.mem_append_right _ (List.mem_append_right _ (List.mem_append_right _ (List.mem_append_right _ (List.mem_append_right _ (List.mem_of_getElem? (i := 135) rfl))))))) rfl⟩
theorem cb_Rod_crash : CB y_Rod_crash b_Rod_crash 7 (some .int) 1 := ⟨vv_Gin (List.mem_append_right _ (List.mem_append_right _ (List.mem_append_right _ (List.mem_append_right _ (List.mem_append_left _ (List.mem_of_getElem? (i := 125) rfl)))))) rfl, by decide +kernel, vv_Gin (List.mem_append_right _ (List.mem_append_left _ (List.mem_of_getElem? (i := 1) rfl))) rfl⟩
theorem im_Rod_crash : Cond.instanceMethod y_Rod_crash ∈ vv_G := vv_Gin (List.mem_append_right _ (List.mem_append_right _ (List.mem_append_right _ (List.mem_append_right _ (List.mem_append_left _ (List.mem_of_getElem? (i := 123) rfl)))))) rfl
theorem se_Rod_crash : Cond.selects y_Rod_crash.cls y_Rod_crash y_Rod_crash ∈ vv_G := vv_Gin (List.mem_append_right _ (List.mem_append_right _ (List.mem_append_right _ (List.mem_append_right _ (List.mem_append_left _ (List.mem_of_getElem? (i := 124) rfl)))))) rfl
theorem cv_law_129 : CV R_law 129 y_Rod_crash b_Rod_crash 7 (some .int) 1 := ⟨cb_Rod_crash, im_Rod_crash, se_Rod_crash, vv_Gin (List.mem_append_right _ (List.mem_append_right _ (List.mem_append_right _ (List.mem_append_right _ (List.mem_append_left _ (List.mem_of_getElem? (i := 122) rfl)))))) rfl⟩
theorem cb_Mod_crash : CB y_Mod_crash b_Mod_crash 3 (some .int) 1 := ⟨vv_Gin (List.mem_append_right _ (List.mem_append_right _ (List.mem_append_right _ (List.mem_append_right _ (List.mem_append_right _ (List.mem_append_right _ (List.mem_of_getElem? (i := 146) rfl))))))) rfl, by decide +kernel, vv_Gin (List.mem_append_right _ (List.mem_append_left _ (List.mem_of_getElem? (i := 13) rfl))) rfl⟩
theorem im_Mod_crash : Cond.instanceMethod y_Mod_crash ∈ vv_G := vv_Gin (List.mem_append_right _ (List.mem_append_right _ (List.mem_append_right _ (List.mem_append_right _ (List.mem_append_right _ (List.mem_append_right _ (List.mem_of_getElem? (i := 144) rfl))))))) rfl
theorem se_Mod_crash : Cond.selects y_Mod_crash.cls y_Mod_crash y_Mod_crash ∈ vv_G := vv_Gin (List.mem_append_right _ (List.mem_append_right _ (List.mem_append_right _ (List.mem_append_right _ (List.mem_append_right _ (List.mem_append_right _ (List.mem_of_getElem? (i := 145) rfl))))))) rfl
theorem cv_law_132 : CV R_law 132 y_Mod_crash b_Mod_crash 3 (some .int) 1 := ⟨cb_Mod_crash, im_Mod_crash, se_Mod_crash, vv_Gin (List.mem_append_right _ (List.mem_append_right _ (List.mem_append_right _ (List.mem_append_right _ (List.mem_append_right _ (List.mem_append_right _ (List.mem_of_getElem? (i := 143) rfl))))))) rfl⟩
theorem cb_Rod_save : CB y_Rod_save b_Rod_save 2 (some .int) 1 := ⟨vv_Gin (List.mem_append_right _ (List.mem_append_right _ (List.mem_append_right _ (List.mem_append_right _ (List.mem_append_left _ (List.mem_of_getElem? (i := 137) rfl)))))) rfl, by decide +kernel, vv_Gin (List.mem_append_right _ (List.mem_append_left _ (List.mem_of_getElem? (i := 1) rfl))) rfl⟩
theorem im_Rod_save : Cond.instanceMethod y_Rod_save ∈ vv_G := vv_Gin (List.mem_append_right _ (List.mem_append_right _ (List.mem_append_right _ (List.mem_append_right _ (List.mem_append_left _ (List.mem_of_getElem? (i := 135) rfl)))))) rfl
theorem se_Rod_save : Cond.selects y_Rod_save.cls y_Rod_save y_Rod_save ∈ vv_G := vv_Gin (List.mem_append_right _ (List.mem_append_right _ (List.mem_append_right _ (List.mem_append_right _ (List.mem_append_left _ (List.mem_of_getElem? (i := 136) rfl)))))) rfl
theorem cv_law_133 : CV R_law 133 y_Rod_save b_Rod_save 2 (some .int) 1 := ⟨cb_Rod_save, im_Rod_save, se_Rod_save, vv_Gin (List.mem_append_right _ (List.mem_append_right _ (List.mem_append_right _ (List.mem_append_right _ (List.mem_append_left _ (List.mem_of_getElem? (i := 134) rfl)))))) rfl⟩
theorem cb_Mod_save : CB y_Mod_save b_Mod_save 3 (some .int) 1 := ⟨vv_Gin (List.mem_append_right _ (List.mem_append_right _ (List.mem_append_right _ (List.mem_append_right _ (List.mem_append_right _ (List.mem_append_right _ (List.mem_of_getElem? (i := 158) rfl))))))) rfl, by decide +kernel, vv_Gin (List.mem_append_right _ (List.mem_append_left _ (List.mem_of_getElem? (i := 13) rfl))) rfl⟩
theorem im_Mod_save : Cond.instanceMethod y_Mod_save ∈ vv_G := vv_Gin (List.mem_append_right _ (List.mem_append_right _ (List.mem_append_right _ (List.mem_append_right _ (List.mem_append_right _ (List.mem_append_right _ (List.mem_of_getElem? (i := 156) rfl))))))) rfl
theorem se_Mod_save : Cond.selects y_Mod_save.cls y_Mod_save y_Mod_save ∈ vv_G := vv_Gin (List.mem_append_right _ (List.mem_append_right _ (List.mem_append_right _ (List.mem_append_right _ (List.mem_append_right _ (List.mem_append_right _ (List.mem_of_getElem? (i := 157) rfl))))))) rfl
theorem cv_law_136 : CV R_law 136 y_Mod_save b_Mod_save 3 (some .int) 1 := ⟨cb_Mod_save, im_Mod_save, se_Mod_save, vv_Gin (List.mem_append_right _ (List.mem_append_right _ (List.mem_append_right _ (List.mem_append_right _ (List.mem_append_right _ (List.mem_append_right _ (List.mem_of_getElem? (i := 155) rfl))))))) rfl⟩
theorem cb_Rod_luck : CB y_Rod_luck b_Rod_luck 9 (some .int) 2 := ⟨vv_Gin (List.mem_append_right _ (List.mem_append_right _ (List.mem_append_right _ (List.mem_append_right _ (List.mem_append_left _ (List.mem_of_getElem? (i := 142) rfl)))))) rfl, by decide +kernel, vv_Gin (List.mem_append_right _ (List.mem_append_left _ (List.mem_of_getElem? (i := 1) rfl))) rfl⟩
theorem im_Rod_luck : Cond.instanceMethod y_Rod_luck ∈ vv_G := vv_Gin (List.mem_append_right _ (List.mem_append_right _ (List.mem_append_right _ (List.mem_append_right _ (List.mem_append_left _ (List.mem_of_getElem? (i := 140) rfl)))))) rfl
theorem se_Rod_luck : Cond.selects y_Rod_luck.cls y_Rod_luck y_Rod_luck ∈ vv_G := vv_Gin (List.mem_append_right _ (List.mem_append_right _ (List.mem_append_right _ (List.mem_append_right _ (List.mem_append_left _ (List.mem_of_getElem? (i := 141) rfl)))))) rfl
theorem cv_law_137 : CV R_law 137 y_Rod_luck b_Rod_luck 9 (some .int) 2 := ⟨cb_Rod_luck, im_Rod_luck, se_Rod_luck, vv_Gin (List.mem_append_right _ (List.mem_append_right _ (List.mem_append_right _ (List.mem_append_right _ (List.mem_append_left _ (List.mem_of_getElem? (i := 139) rfl)))))) rfl⟩
theorem cb_Mod_luck : CB y_Mod_luck b_Mod_luck 7 (some .int) 2 := ⟨vv_Gin (List.mem_append_right _ (List.mem_append_right _ (List.mem_append_right _ (List.mem_append_right _ (List.mem_append_right _ (List.mem_append_right _ (List.mem_of_getElem? (i := 162) rfl))))))) rfl, by decide +kernel, vv_Gin (List.mem_append_right _ (List.mem_append_left _ (List.mem_of_getElem? (i := 13) rfl))) rfl⟩
theorem im_Mod_luck : Cond.instanceMethod y_Mod_luck ∈ vv_G := vv_Gin (List.mem_append_right _ (List.mem_append_right _ (List.mem_append_right _ (List.mem_append_right _ (List.mem_append_right _ (List.mem_append_right _ (List.mem_of_getElem? (i := 160) rfl))))))) rfl
theorem se_Mod_luck : Cond.selects y_Mod_luck.cls y_Mod_luck y_Mod_luck ∈ vv_G := vv_Gin (List.mem_append_right _ (List.mem_append_right _ (List.mem_append_right _ (List.mem_append_right _ (List.mem_append_right _ (List.mem_append_right _ (List.mem_of_getElem? (i := 161) rfl))))))) rfl
theorem cv_law_140 : CV R_law 140 y_Mod_luck b_Mod_luck 7 (some .int) 2 := ⟨cb_Mod_luck, im_Mod_luck, se_Mod_luck, vv_Gin (List.mem_append_right _ (List.mem_append_right _ (List.mem_append_right _ (List.mem_append_right _ (List.mem_append_right _ (List.mem_append_right _ (List.mem_of_getElem? (i := 159) rfl))))))) rfl⟩
theorem cb_Rod_keep : CB y_Rod_keep b_Rod_keep 3 (some .int) 1 := ⟨vv_Gin (List.mem_append_right _ (List.mem_append_right _ (List.mem_append_right _ (List.mem_append_right _ (List.mem_append_left _ (List.mem_of_getElem? (i := 153) rfl)))))) rfl, by decide +kernel, vv_Gin (List.mem_append_right _ (List.mem_append_left _ (List.mem_of_getElem? (i := 1) rfl))) rfl⟩
theorem im_Rod_keep : Cond.instanceMethod y_Rod_keep ∈ vv_G := vv_Gin (List.mem_append_right _ (List.mem_append_right _ (List.mem_append_right _ (List.mem_append_right _ (List.mem_append_left _ (List.mem_of_getElem? (i := 151) rfl)))))) rfl
theorem se_Rod_keep : Cond.selects y_Rod_keep.cls y_Rod_keep y_Rod_keep ∈ vv_G := vv_Gin (List.mem_append_right _ (List.mem_append_right _ (List.mem_append_right _ (List.mem_append_right _ (List.mem_append_left _ (List.mem_of_getElem? (i := 152) rfl)))))) rfl
theorem cv_law_141 : CV R_law 141 y_Rod_keep b_Rod_keep 3 (some .int) 1 := ⟨cb_Rod_keep, im_Rod_keep, se_Rod_keep, vv_Gin (List.mem_append_right _ (List.mem_append_right _ (List.mem_append_right _ (List.mem_append_right _ (List.mem_append_left _ (List.mem_of_getElem? (i := 150) rfl)))))) rfl⟩
theorem cb_Mod_keep : CB y_Mod_keep b_Mod_keep 3 (some .int) 1 := ⟨vv_Gin (List.mem_append_right _ (List.mem_append_right _ (List.mem_append_right _ (List.mem_append_right _ (List.mem_append_right _ (List.mem_append_right _ (List.mem_of_getElem? (i := 168) rfl))))))) rfl, by decide +kernel, vv_Gin (List.mem_append_right _ (List.mem_append_left _ (List.mem_of_getElem? (i := 13) rfl))) rfl⟩
theorem im_Mod_keep : Cond.instanceMethod y_Mod_keep ∈ vv_G := vv_Gin (List.mem_append_right _ (List.mem_append_right _ (List.mem_append_right _ (List.mem_append_right _ (List.mem_append_right _ (List.mem_append_right _ (List.mem_of_getElem? (i := 166) rfl))))))) rfl
theorem se_Mod_keep : Cond.selects y_Mod_keep.cls y_Mod_keep y_Mod_keep ∈ vv_G := vv_Gin (List.mem_append_right _ (List.mem_append_right _ (List.mem_append_right _ (List.mem_append_right _ (List.mem_append_right _ (List.mem_append_right _ (List.mem_of_getElem? (i := 167) rfl))))))) rfl
theorem cv_law_144 : CV R_law 144 y_Mod_keep b_Mod_keep 3 (some .int) 1 := ⟨cb_Mod_keep, im_Mod_keep, se_Mod_keep, vv_Gin (List.mem_append_right _ (List.mem_append_right _ (List.mem_append_right _ (List.mem_append_right _ (List.mem_append_right _ (List.mem_append_right _ (List.mem_of_getElem? (i := 165) rfl))))))) rfl⟩
theorem cb_Rod_back : CB y_Rod_back b_Rod_back 2 (some .int) 1 := ⟨vv_Gin (List.mem_append_right _ (List.mem_append_right _ (List.mem_append_right _ (List.mem_append_right _ (List.mem_append_left _ (List.mem_of_getElem? (i := 157) rfl)))))) rfl, by decide +kernel, vv_Gin (List.mem_append_right _ (List.mem_append_left _ (List.mem_of_getElem? (i := 1) rfl))) rfl⟩
theorem im_Rod_back : Cond.instanceMethod y_Rod_back ∈ vv_G := vv_Gin (List.mem_append_right _ (List.mem_append_right _ (List.mem_append_right _ (List.mem_append_right _ (List.mem_append_left _ (List.mem_of_getElem? (i := 155) rfl)))))) rfl
theorem se_Rod_back : Cond.selects y_Rod_back.cls y_Rod_back y_Rod_back ∈ vv_G := vv_Gin (List.mem_append_right _ (List.mem_append_right _ (List.mem_append_right _ (List.mem_append_right _ (List.mem_append_left _ (List.mem_of_getElem? (i := 156) rfl)))))) rfl
theorem cv_law_145 : CV R_law 145 y_Rod_back b_Rod_back 2 (some .int) 1 := ⟨cb_Rod_back, im_Rod_back, se_Rod_back, vv_Gin (List.mem_append_right _ (List.mem_append_right _ (List.mem_append_right _ (List.mem_append_right _ (List.mem_append_left _ (List.mem_of_getElem? (i := 154) rfl)))))) rfl⟩
theorem cb_Mod_back : CB y_Mod_back b_Mod_back 2 (some .int) 1 := ⟨vv_Gin (List.mem_append_right _ (List.mem_append_right _ (List.mem_append_right _ (List.mem_append_right _ (List.mem_append_right _ (List.mem_append_right _ (List.mem_of_getElem? (i := 176) rfl))))))) rfl, by decide +kernel, vv_Gin (List.mem_append_right _ (List.mem_append_left _ (List.mem_of_getElem? (i := 13) rfl))) rfl⟩
theorem im_Mod_back : Cond.instanceMethod y_Mod_back ∈ vv_G := vv_Gin (List.mem_append_right _ (List.mem_append_right _ (List.mem_append_right _ (List.mem_append_right _ (List.mem_append_right _ (List.mem_append_right _ (List.mem_of_getElem? (i := 174) rfl))))))) rfl
theorem se_Mod_back : Cond.selects y_Mod_back.cls y_Mod_back y_Mod_back ∈ vv_G := vv_Gin (List.mem_append_right _ (List.mem_append_right _ (List.mem_append_right _ (List.mem_append_right _ (List.mem_append_right _ (List.mem_append_right _ (List.mem_of_getElem? (i := 175) rfl))))))) rfl
theorem cv_law_148 : CV R_law 148 y_Mod_back b_Mod_back 2 (some .int) 1 := ⟨cb_Mod_back, im_Mod_back, se_Mod_back, vv_Gin (List.mem_append_right _ (List.mem_append_right _ (List.mem_append_right _ (List.mem_append_right _ (List.mem_append_right _ (List.mem_append_right _ (List.mem_of_getElem? (i := 173) rfl))))))) rfl⟩
theorem cb_Rod_sheet : CB y_Rod_sheet b_Rod_sheet 4 (some .int) 3 := ⟨vv_Gin (List.mem_append_right _ (List.mem_append_right _ (List.mem_append_right _ (List.mem_append_right _ (List.mem_append_left _ (List.mem_of_getElem? (i := 161) rfl)))))) rfl, by decide +kernel, vv_Gin (List.mem_append_right _ (List.mem_append_left _ (List.mem_of_getElem? (i := 1) rfl))) rfl⟩
theorem im_Rod_sheet : Cond.instanceMethod y_Rod_sheet ∈ vv_G := vv_Gin (List.mem_append_right _ (List.mem_append_right _ (List.mem_append_right _ (List.mem_append_right _ (List.mem_append_left _ (List.mem_of_getElem? (i := 159) rfl)))))) rfl
theorem se_Rod_sheet : Cond.selects y_Rod_sheet.cls y_Rod_sheet y_Rod_sheet ∈ vv_G := vv_Gin (List.mem_append_right _ (List.mem_append_right _ (List.mem_append_right _ (List.mem_append_right _ (List.mem_append_left _ (List.mem_of_getElem? (i := 160) rfl)))))) rfl
theorem cv_law_149 : CV R_law 149 y_Rod_sheet b_Rod_sheet 4 (some .int) 3 := ⟨cb_Rod_sheet, im_Rod_sheet, se_Rod_sheet, vv_Gin (List.mem_append_right _ (List.mem_append_right _ (List.mem_append_right _ (List.mem_append_right _ (List.mem_append_left _ (List.mem_of_getElem? (i := 158) rfl)))))) rfl⟩
theorem cb_Mod_sheet : CB y_Mod_sheet b_Mod_sheet 5 (some .int) 3 := ⟨vv_Gin (List.mem_append_right _ (List.mem_append_right _ (List.mem_append_right _ (List.mem_append_right _ (List.mem_append_right _ (List.mem_append_right _ (List.mem_of_getElem? (i := 180) rfl))))))) rfl, by decide +kernel, vv_Gin (List.mem_append_right _ (List.mem_append_left _ (List.mem_of_getElem? (i := 13) rfl))) rfl⟩
theorem im_Mod_sheet : Cond.instanceMethod y_Mod_sheet ∈ vv_G := vv_Gin (List.mem_append_right _ (List.mem_append_right _ (List.mem_append_right _ (List.mem_append_right _ (List.mem_append_right _ (List.mem_append_right _ (List.mem_of_getElem? (i := 178) rfl))))))) rfl
theorem se_Mod_sheet : Cond.selects y_Mod_sheet.cls y_Mod_sheet y_Mod_sheet ∈ vv_G := vv_Gin (List.mem_append_right _ (List.mem_append_right _ (List.mem_append_right _ (List.mem_append_right _ (List.mem_append_right _ (List.mem_append_right _ (List.mem_of_getElem? (i := 179) rfl))))))) rfl
theorem cv_law_152 : CV R_law 152 y_Mod_sheet b_Mod_sheet 5 (some .int) 3 := ⟨cb_Mod_sheet, im_Mod_sheet, se_Mod_sheet, vv_Gin (List.mem_append_right _ (List.mem_append_right _ (List.mem_append_right _ (List.mem_append_right _ (List.mem_append_right _ (List.mem_append_right _ (List.mem_of_getElem? (i := 177) rfl))))))) rfl⟩
theorem cb_Rod_lay : CB y_Rod_lay b_Rod_lay 5 (some .int) 3 := ⟨vv_Gin (List.mem_append_right _ (List.mem_append_right _ (List.mem_append_right _ (List.mem_append_right _ (List.mem_append_left _ (List.mem_of_getElem? (i := 176) rfl)))))) rfl, by decide +kernel, vv_Gin (List.mem_append_right _ (List.mem_append_left _ (List.mem_of_getElem? (i := 1) rfl))) rfl⟩
theorem im_Rod_lay : Cond.instanceMethod y_Rod_lay ∈ vv_G := vv_Gin (List.mem_append_right _ (List.mem_append_right _ (List.mem_append_right _ (List.mem_append_right _ (List.mem_append_left _ (List.mem_of_getElem? (i := 174) rfl)))))) rfl
theorem se_Rod_lay : Cond.selects y_Rod_lay.cls y_Rod_lay y_Rod_lay ∈ vv_G := vv_Gin (List.mem_append_right _ (List.mem_append_right _ (List.mem_append_right _ (List.mem_append_right _ (List.mem_append_left _ (List.mem_of_getElem? (i := 175) rfl)))))) rfl
theorem cv_law_153 : CV R_law 153 y_Rod_lay b_Rod_lay 5 (some .int) 3 := ⟨cb_Rod_lay, im_Rod_lay, se_Rod_lay, vv_Gin (List.mem_append_right _ (List.mem_append_right _ (List.mem_append_right _ (List.mem_append_right _ (List.mem_append_left _ (List.mem_of_getElem? (i := 173) rfl)))))) rfl⟩
theorem cb_Mod_lay : CB y_Mod_lay b_Mod_lay 4 (some .int) 3 := ⟨vv_Gin (List.mem_append_right _ (List.mem_append_right _ (List.mem_append_right _ (List.mem_append_right _ (List.mem_append_right _ (List.mem_append_right _ (List.mem_of_getElem? (i := 188) rfl))))))) rfl, by decide +kernel, vv_Gin (List.mem_append_right _ (List.mem_append_left _ (List.mem_of_getElem? (i := 13) rfl))) rfl⟩
theorem im_Mod_lay : Cond.instanceMethod y_Mod_lay ∈ vv_G := vv_Gin (List.mem_append_right _ (List.mem_append_right _ (List.mem_append_right _ (List.mem_append_right _ (List.mem_append_right _ (List.mem_append_right _ (List.mem_of_getElem? (i := 186) rfl))))))) rfl
theorem se_Mod_lay : Cond.selects y_Mod_lay.cls y_Mod_lay y_Mod_lay ∈ vv_G := vv_Gin (List.mem_append_right _ (List.mem_append_right _ (List.mem_append_right _ (List.mem_append_right _ (List.mem_append_right _ (List.mem_append_right _ (List.mem_of_getElem? (i := 187) rfl))))))) rfl
theorem cv_law_156 : CV R_law 156 y_Mod_lay b_Mod_lay 4 (some .int) 3 := ⟨cb_Mod_lay, im_Mod_lay, se_Mod_lay, vv_Gin (List.mem_append_right _ (List.mem_append_right _ (List.mem_append_right _ (List.mem_append_right _ (List.mem_append_right _ (List.mem_append_right _ (List.mem_of_getElem? (i := 185) rfl))))))) rfl⟩
theorem cb_Rod_read : CB y_Rod_read b_Rod_read 9 (some .int) 4 := ⟨vv_Gin (List.mem_append_right _ (List.mem_append_right _ (List.mem_append_right _ (List.mem_append_right _ (List.mem_append_left _ (List.mem_of_getElem? (i := 184) rfl)))))) rfl, by decide +kernel, vv_Gin (List.mem_append_right _ (List.mem_append_left _ (List.mem_of_getElem? (i := 1) rfl))) rfl⟩
theorem im_Rod_read : Cond.instanceMethod y_Rod_read ∈ vv_G := vv_Gin (List.mem_append_right _ (List.mem_append_right _ (List.mem_append_right _ (List.mem_append_right _ (List.mem_append_left _ (List.mem_of_getElem? (i := 182) rfl)))))) rfl
theorem se_Rod_read : Cond.selects y_Rod_read.cls y_Rod_read y_Rod_read ∈ vv_G := vv_Gin (List.mem_append_right _ (List.mem_append_right _ (List.mem_append_right _ (List.mem_append_right _ (List.mem_append_left _ (List.mem_of_getElem? (i := 183) rfl)))))) rfl
theorem cv_law_157 : CV R_law 157 y_Rod_read b_Rod_read 9 (some .int) 4 := ⟨cb_Rod_read, im_Rod_read, se_Rod_read, vv_Gin (List.mem_append_right _ (List.mem_append_right _ (List.mem_append_right _ (List.mem_append_right _ (List.mem_append_left _ (List.mem_of_getElem? (i := 181) rfl)))))) rfl⟩
theorem cb_Mod_read : CB y_Mod_read b_Mod_read 11 (some .int) 4 := ⟨vv_Gin (List.mem_append_right _ (List.mem_append_right _ (List.mem_append_right _ (List.mem_append_right _ (List.mem_append_right _ (List.mem_append_right _ (List.mem_of_getElem? (i := 192) rfl))))))) rfl, by decide +kernel, vv_Gin (List.mem_append_right _ (List.mem_append_left _ (List.mem_of_getElem? (i := 13) rfl))) rfl⟩
theorem im_Mod_read : Cond.instanceMethod y_Mod_read ∈ vv_G := vv_Gin (List.mem_append_right _ (List.mem_append_right _ (List.mem_append_right _ (List.mem_append_right _ (List.mem_append_right _ (List.mem_append_right _ (List.mem_of_getElem? (i := 190) rfl))))))) rfl
theorem se_Mod_read : Cond.selects y_Mod_read.cls y_Mod_read y_Mod_read ∈ vv_G := vv_Gin (List.mem_append_right _ (List.mem_append_right _ (List.mem_append_right _ (List.mem_append_right _ (List.mem_append_right _ (List.mem_append_right _ (List.mem_of_getElem? (i := 191) rfl))))))) rfl
theorem cv_law_160 : CV R_law 160 y_Mod_read b_Mod_read 11 (some .int) 4 := ⟨cb_Mod_read, im_Mod_read, se_Mod_read, vv_Gin (List.mem_append_right _ (List.mem_append_right _ (List.mem_append_right _ (List.mem_append_right _ (List.mem_append_right _ (List.mem_append_right _ (List.mem_of_getElem? (i := 189) rfl))))))) rfl⟩
theorem cb_Rod_torn : CB y_Rod_torn b_Rod_torn 1 (some .int) 0 := ⟨vv_Gin (List.mem_append_right _ (List.mem_append_right _ (List.mem_append_right _ (List.mem_append_right _ (List.mem_append_left _ (List.mem_of_getElem? (i := 199) rfl)))))) rfl, by decide +kernel, vv_Gin (List.mem_append_right _ (List.mem_append_left _ (List.mem_of_getElem? (i := 1) rfl))) rfl⟩
theorem im_Rod_torn : Cond.instanceMethod y_Rod_torn ∈ vv_G := vv_Gin (List.mem_append_right _ (List.mem_append_right _ (List.mem_append_right _ (List.mem_append_right _ (List.mem_append_left _ (List.mem_of_getElem? (i := 197) rfl)))))) rfl
theorem se_Rod_torn : Cond.selects y_Rod_torn.cls y_Rod_torn y_Rod_torn ∈ vv_G := vv_Gin (List.mem_append_right _ (List.mem_append_right _ (List.mem_append_right _ (List.mem_append_right _ (List.mem_append_left _ (List.mem_of_getElem? (i := 198) rfl)))))) rfl
theorem cv_law_161 : CV R_law 161 y_Rod_torn b_Rod_torn 1 (some .int) 0 := ⟨cb_Rod_torn, im_Rod_torn, se_Rod_torn, vv_Gin (List.mem_append_right _ (List.mem_append_right _ (List.mem_append_right _ (List.mem_append_right _ (List.mem_append_left _ (List.mem_of_getElem? (i := 196) rfl)))))) rfl⟩
theorem cb_Mod_torn : CB y_Mod_torn b_Mod_torn 1 (some .int) 0 := ⟨vv_Gin (List.mem_append_right _ (List.mem_append_right _ (List.mem_append_right _ (List.mem_append_right _ (List.mem_append_right _ (List.mem_append_right _ (List.mem_of_getElem? (i := 197) rfl))))))) rfl, by decide +kernel, vv_Gin (List.mem_append_right _ (List.mem_append_left _ (List.mem_of_getElem? (i := 13) rfl))) rfl⟩
theorem im_Mod_torn : Cond.instanceMethod y_Mod_torn ∈ vv_G := vv_Gin (List.mem_append_right _ (List.mem_append_right _ (List.mem_append_right _ (List.mem_append_right _ (List.mem_append_right _ (List.mem_append_right _ (List.mem_of_getElem? (i := 195) rfl))))))) rfl
theorem se_Mod_torn : Cond.selects y_Mod_torn.cls y_Mod_torn y_Mod_torn ∈ vv_G := vv_Gin (List.mem_append_right _ (List.mem_append_right _ (List.mem_append_right _ (List.mem_append_right _ (List.mem_append_right _ (List.mem_append_right _ (List.mem_of_getElem? (i := 196) rfl))))))) rfl
theorem cv_law_164 : CV R_law 164 y_Mod_torn b_Mod_torn 1 (some .int) 0 := ⟨cb_Mod_torn, im_Mod_torn, se_Mod_torn, vv_Gin (List.mem_append_right _ (List.mem_append_right _ (List.mem_append_right _ (List.mem_append_right _ (List.mem_append_right _ (List.mem_append_right _ (List.mem_of_getElem? (i := 194) rfl))))))) rfl⟩
theorem cb_Rod_count : CB y_Rod_count b_Rod_count 2 (some .int) 1 := ⟨vv_Gin (List.mem_append_right _ (List.mem_append_right _ (List.mem_append_right _ (List.mem_append_right _ (List.mem_append_left _ (List.mem_of_getElem? (i := 203) rfl)))))) rfl, by decide +kernel, vv_Gin (List.mem_append_right _ (List.mem_append_left _ (List.mem_of_getElem? (i := 1) rfl))) rfl⟩
theorem im_Rod_count : Cond.instanceMethod y_Rod_count ∈ vv_G := vv_Gin (List.mem_append_right _ (List.mem_append_right _ (List.mem_append_right _ (List.mem_append_right _ (List.mem_append_left _ (List.mem_of_getElem? (i := 201) rfl)))))) rfl
theorem se_Rod_count : Cond.selects y_Rod_count.cls y_Rod_count y_Rod_count ∈ vv_G := vv_Gin (List.mem_append_right _ (List.mem_append_right _ (List.mem_append_right _ (List.mem_append_right _ (List.mem_append_left _ (List.mem_of_getElem? (i := 202) rfl)))))) rfl
theorem cv_law_165 : CV R_law 165 y_Rod_count b_Rod_count 2 (some .int) 1 := ⟨cb_Rod_count, im_Rod_count, se_Rod_count, vv_Gin (List.mem_append_right _ (List.mem_append_right _ (List.mem_append_right _ (List.mem_append_right _ (List.mem_append_left _ (List.mem_of_getElem? (i := 200) rfl)))))) rfl⟩
theorem cb_Mod_count : CB y_Mod_count b_Mod_count 5 (some .int) 1 := ⟨vv_Gin (List.mem_append_right _ (List.mem_append_right _ (List.mem_append_right _ (List.mem_append_right _ (List.mem_append_right _ (List.mem_append_right _ (List.mem_of_getElem? (i := 201) rfl))))))) rfl, by decide +kernel, vv_Gin (List.mem_append_right _ (List.mem_append_left _ (List.mem_of_getElem? (i := 13) rfl))) rfl⟩
theorem im_Mod_count : Cond.instanceMethod y_Mod_count ∈ vv_G := vv_Gin (List.mem_append_right _ (List.mem_append_right _ (List.mem_append_right _ (List.mem_append_right _ (List.mem_append_right _ (List.mem_append_right _ (List.mem_of_getElem? (i := 199) rfl))))))) rfl
theorem se_Mod_count : Cond.selects y_Mod_count.cls y_Mod_count y_Mod_count ∈ vv_G := vv_Gin (List.mem_append_right _ (List.mem_append_right _ (List.mem_append_right _ (List.mem_append_right _ (List.mem_append_right _ (List.mem_append_right _ (List.mem_of_getElem? (i := 200) rfl))))))) rfl
theorem cv_law_168 : CV R_law 168 y_Mod_count b_Mod_count 5 (some .int) 1 := ⟨cb_Mod_count, im_Mod_count, se_Mod_count, vv_Gin (List.mem_append_right _ (List.mem_append_right _ (List.mem_append_right _ (List.mem_append_right _ (List.mem_append_right _ (List.mem_append_right _ (List.mem_of_getElem? (i := 198) rfl))))))) rfl⟩
theorem law_0 {b0 Ls : Nat} {xs : Nat → Int32} {h : Hp} {i : Int32} {I : Nat} (hL2 : Ls ≤ 320) (hi : i.toInt = I) (hL : I + 5 ≤ Ls) (hJ : J h) (K : ∀ h' : Hp, J h' → ZW b0 Ls xs h' 1359 (LZ i) []) : ZW b0 Ls xs h 196 (LZ i) [] := by
  have hI : Inv h := hJ.1
  refine Z_aload_n 1 dl_196 rfl rfl ?_
  refine Z_arg 1 (by decide) hi hL hL2 dl_197 dl_198 dl_199 dl_200 dl_201 ?_
  refine Z_call [.int (xs (I + 1))] [] cv_law_13 sk_85 rfl dl_202 rfl (Nat.le_of_ble_eq_true rfl) (by decide) (by decide) (c_Rod_feedX h hI _ _ rfl _ _ rfl rfl) (fun _ h1 hq => ?_)
  obtain ⟨r1, rfl, h1I, h1f⟩ := hq
  refine Z_pop dl_205 rfl ?_
  refine Z_aload_n 2 dl_206 rfl rfl ?_
  refine Z_arg 1 (by decide) hi hL hL2 dl_207 dl_208 dl_209 dl_210 dl_211 ?_
  refine Z_call [.int (xs (I + 1))] [] cv_law_17 sk_116 rfl dl_212 rfl (Nat.le_of_ble_eq_true rfl) (by decide) (by decide) (c_Mod_feedX h1 h1I _ _ rfl _ _ rfl rfl) (fun _ h2 hq => ?_)
  obtain ⟨r2, rfl, h2I, h2f⟩ := hq
  refine Z_pop dl_215 rfl ?_
  refine Z_goto 1359 dl_216 (by decide) ?_
  obtain ⟨g1, u1, u1Z, u1E, u1K, u1C⟩ := h1f
  obtain ⟨g2, u2, u2Z, u2E, u2K, u2C⟩ := h2f
  have hs := (hI 89 1).1
  have hT := JT_feed hJ.2.1 g1 g2 rfl rfl (fun _ => rfl) (fun _ => rfl) rfl rfl ⟨rfl, rfl⟩ ⟨rfl, rfl⟩ rfl u1E u1K u2E u2K u1C u2C hs
  exact K h2 ⟨h2I, hT, (JA_fr g2 rfl (JA_fr g1 rfl hJ.2.2.1)), (JB_fr g2 rfl (JB_fr g1 rfl hJ.2.2.2.1)), (JS_fr g2 rfl (JS_fr g1 rfl hJ.2.2.2.2.1)), (JR_fr g2 rfl (JR_fr g1 rfl hJ.2.2.2.2.2))⟩
theorem law_1 {b0 Ls : Nat} {xs : Nat → Int32} {h : Hp} {i : Int32} {I : Nat} (hL2 : Ls ≤ 320) (hi : i.toInt = I) (hL : I + 5 ≤ Ls) (hJ : J h) (K : ∀ h' : Hp, J h' → ZW b0 Ls xs h' 1359 (LZ i) []) : ZW b0 Ls xs h 219 (LZ i) [] := by
  have hI : Inv h := hJ.1
  refine Z_aload_n 1 dl_219 rfl rfl ?_
  refine Z_arg 1 (by decide) hi hL hL2 dl_220 dl_221 dl_222 dl_223 dl_224 ?_
  refine Z_call [.int (xs (I + 1))] [] cv_law_18 sk_85 rfl dl_225 rfl (Nat.le_of_ble_eq_true rfl) (by decide) (by decide) (c_Rod_end h hI _ _ rfl _ _ rfl rfl) (fun _ h1 hq => ?_)
  obtain ⟨r1, rfl, h1I, h1f⟩ := hq
  refine Z_pop dl_228 rfl ?_
  refine Z_aload_n 2 dl_229 rfl rfl ?_
  refine Z_arg 1 (by decide) hi hL hL2 dl_230 dl_231 dl_232 dl_233 dl_234 ?_
  refine Z_call [.int (xs (I + 1))] [] cv_law_21 sk_116 rfl dl_235 rfl (Nat.le_of_ble_eq_true rfl) (by decide) (by decide) (c_Mod_end h1 h1I _ _ rfl _ _ rfl rfl) (fun _ h2 hq => ?_)
  obtain ⟨r2, rfl, h2I, h2f⟩ := hq
  refine Z_pop dl_238 rfl ?_
  refine Z_goto 1359 dl_239 (by decide) ?_
  obtain ⟨g1, u1, u1Z, u1E, u1K, u1C⟩ := h1f
  obtain ⟨g2, u2, u2Z, u2E, u2K, u2C⟩ := h2f
  have hT := JT_end (nZ := (xs (I + 1)).toInt) hJ.2.1 g1 g2 (fun k i hk hn => end_S1 hk hn) (fun k i hk hn => end_S2 hk hn) u1E u1K u2E u2K (by (first | decide +kernel | omega)) (by (first | decide +kernel | omega))
  exact K h2 ⟨h2I, hT, (JA_fr g2 rfl (JA_fr g1 rfl hJ.2.2.1)), (JB_fr g2 rfl (JB_fr g1 rfl hJ.2.2.2.1)), (JS_fr g2 rfl (JS_fr g1 rfl hJ.2.2.2.2.1)), (JR_fr g2 rfl (JR_fr g1 rfl hJ.2.2.2.2.2))⟩
theorem law_2 {b0 Ls : Nat} {xs : Nat → Int32} {h : Hp} {i : Int32} {I : Nat} (hL2 : Ls ≤ 320) (hi : i.toInt = I) (hL : I + 5 ≤ Ls) (hJ : J h) (K : ∀ h' : Hp, J h' → ZW b0 Ls xs h' 1359 (LZ i) []) : ZW b0 Ls xs h 242 (LZ i) [] := by
  have hI : Inv h := hJ.1
  refine Z_aload_n 1 dl_242 rfl rfl ?_
  refine Z_call [] [] cv_law_22 sk_85 rfl dl_243 rfl (Nat.le_of_ble_eq_true rfl) (by decide) (by decide) (c_Rod_textY h (tb h) hI _ _ rfl rfl (TP_c hJ.2.1)) (fun _ h1 hq => ?_)
  obtain ⟨r1, rfl, h1I, h1f⟩ := hq
  refine Z_pop dl_246 rfl ?_
  refine Z_aload_n 2 dl_247 rfl rfl ?_
  refine Z_call [] [] cv_law_26 sk_116 rfl dl_248 rfl (Nat.le_of_ble_eq_true rfl) (by decide) (by decide) (c_Mod_textX h1 (tb h) h1I _ _ rfl rfl (TP_m hJ.2.1 h1f.1 (fun _ => rfl) rfl)) (fun _ h2 hq => ?_)
  obtain ⟨r2, rfl, h2I, h2f⟩ := hq
  refine Z_pop dl_251 rfl ?_
  refine Z_goto 1359 dl_252 (by decide) ?_
  obtain ⟨g1, v1, v1Z, v1E, v1K, w1, w1Z, w1E, w1K, v10, n1, X1, K1⟩ := h1f
  obtain ⟨g2, v2, v2Z, v2E, v2K, w2, w2Z, w2E, w2K, v20, n2, X2, K2⟩ := h2f
  have hT := JT_text hJ.2.1 g1 g2 rfl rfl rfl v1E v1K v10 w1E w1K X1 v2E v2K v20 w2E w2K X2
  have X3 := X2
  rw [g1.1 116 15 rfl, ← hJ.2.1.1] at X3
  have hA := JA_text hJ.2.2.1 g1 g2 X1 X3 K1 K2 rfl rfl rfl
  have hB := JB_text hJ.2.2.2.1 g1 g2 X1 X3 K1 K2 rfl rfl rfl rfl
  exact K h2 ⟨h2I, hT.1, hA, hB, (JS_fr g2 rfl (JS_fr g1 rfl hJ.2.2.2.2.1)), (JR_fr g2 rfl (JR_text hJ.2.2.2.2.2 g1 X1 K1 rfl))⟩
theorem law_3 {b0 Ls : Nat} {xs : Nat → Int32} {h : Hp} {i : Int32} {I : Nat} (hL2 : Ls ≤ 320) (hi : i.toInt = I) (hL : I + 5 ≤ Ls) (hJ : J h) (K : ∀ h' : Hp, J h' → ZW b0 Ls xs h' 1359 (LZ i) []) : ZW b0 Ls xs h 255 (LZ i) [] := by
  have hI : Inv h := hJ.1
  refine Z_aload_n 1 dl_255 rfl rfl ?_
  refine Z_call [] [] cv_law_27 sk_85 rfl dl_256 rfl (Nat.le_of_ble_eq_true rfl) (by decide) (by decide) (c_Rod_faultX h hI) (fun _ h1 hq => ?_)
  obtain ⟨r1, rfl, r1e⟩ := hq
  obtain ⟨rfl, r1E⟩ := r1e
  refine Z_pop dl_259 rfl ?_
  refine Z_aload_n 2 dl_260 rfl rfl ?_
  refine Z_call [] [] cv_law_30 sk_116 rfl dl_261 rfl (Nat.le_of_ble_eq_true rfl) (by decide) (by decide) (c_Mod_faultX h hI) (fun _ h2 hq => ?_)
  obtain ⟨r2, rfl, r2e⟩ := hq
  obtain ⟨rfl, r2E⟩ := r2e
  refine Z_pop dl_264 rfl ?_
  refine Z_goto 1359 dl_265 (by decide) ?_
  exact K h ⟨hI, hJ.2.1, hJ.2.2.1, hJ.2.2.2.1, hJ.2.2.2.2.1, hJ.2.2.2.2.2⟩
theorem law_4 {b0 Ls : Nat} {xs : Nat → Int32} {h : Hp} {i : Int32} {I : Nat} (hL2 : Ls ≤ 320) (hi : i.toInt = I) (hL : I + 5 ≤ Ls) (hJ : J h) (K : ∀ h' : Hp, J h' → ZW b0 Ls xs h' 1359 (LZ i) []) : ZW b0 Ls xs h 268 (LZ i) [] := by
  have hI : Inv h := hJ.1
  refine Z_aload_n 1 dl_268 rfl rfl ?_
  refine Z_arg 1 (by decide) hi hL hL2 dl_269 dl_270 dl_271 dl_272 dl_273 ?_
  refine Z_call [.int (xs (I + 1))] [] cv_law_31 sk_85 rfl dl_274 rfl (Nat.le_of_ble_eq_true rfl) (by decide) (by decide) (c_Rod_ruleX h hI _ _ rfl _ _ rfl rfl _ _ rfl rfl _ _ rfl rfl _ _ rfl rfl _ _ rfl rfl _ _ rfl rfl _ _ rfl rfl) (fun _ h1 hq => ?_)
  obtain ⟨r1, rfl, r1e⟩ := hq
  obtain ⟨rfl, r1E⟩ := r1e
  refine Z_pop dl_277 rfl ?_
  refine Z_aload_n 2 dl_278 rfl rfl ?_
  refine Z_arg 1 (by decide) hi hL hL2 dl_279 dl_280 dl_281 dl_282 dl_283 ?_
  refine Z_call [.int (xs (I + 1))] [] cv_law_34 sk_116 rfl dl_284 rfl (Nat.le_of_ble_eq_true rfl) (by decide) (by decide) (c_Mod_ruleX h hI _ _ rfl _ _ rfl rfl _ _ rfl rfl _ _ rfl rfl _ _ rfl rfl _ _ rfl rfl _ _ rfl rfl _ _ rfl rfl) (fun _ h2 hq => ?_)
  obtain ⟨r2, rfl, r2e⟩ := hq
  obtain ⟨rfl, r2E⟩ := r2e
  refine Z_pop dl_287 rfl ?_
  refine Z_goto 1359 dl_288 (by decide) ?_
  exact K h ⟨hI, hJ.2.1, hJ.2.2.1, hJ.2.2.2.1, hJ.2.2.2.2.1, hJ.2.2.2.2.2⟩
theorem law_5 {b0 Ls : Nat} {xs : Nat → Int32} {h : Hp} {i : Int32} {I : Nat} (hL2 : Ls ≤ 320) (hi : i.toInt = I) (hL : I + 5 ≤ Ls) (hJ : J h) (K : ∀ h' : Hp, J h' → ZW b0 Ls xs h' 1359 (LZ i) []) : ZW b0 Ls xs h 291 (LZ i) [] := by
  have hI : Inv h := hJ.1
  refine Z_aload_n 1 dl_291 rfl rfl ?_
  refine Z_arg 1 (by decide) hi hL hL2 dl_292 dl_293 dl_294 dl_295 dl_296 ?_
  refine Z_arg 2 (by decide) hi hL hL2 dl_297 dl_298 dl_299 dl_300 dl_301 ?_
  refine Z_call [.int (xs (I + 1)), .int (xs (I + 2))] [] cv_law_35 sk_85 rfl dl_302 rfl (Nat.le_of_ble_eq_true rfl) (by decide) (by decide) (c_Rod_cellX h hI _ _ rfl _ _ rfl _ _ rfl rfl _ _ rfl rfl) (fun _ h1 hq => ?_)
  obtain ⟨r1, rfl, r1e⟩ := hq
  obtain ⟨rfl, r1E⟩ := r1e
  refine Z_pop dl_305 rfl ?_
  refine Z_aload_n 2 dl_306 rfl rfl ?_
  refine Z_arg 1 (by decide) hi hL hL2 dl_307 dl_308 dl_309 dl_310 dl_311 ?_
  refine Z_arg 2 (by decide) hi hL hL2 dl_312 dl_313 dl_314 dl_315 dl_316 ?_
  refine Z_call [.int (xs (I + 1)), .int (xs (I + 2))] [] cv_law_39 sk_116 rfl dl_317 rfl (Nat.le_of_ble_eq_true rfl) (by decide) (by decide) (c_Mod_cellX h hI _ _ rfl _ _ rfl _ _ rfl rfl _ _ rfl rfl) (fun _ h2 hq => ?_)
  obtain ⟨r2, rfl, r2e⟩ := hq
  obtain ⟨rfl, r2E⟩ := r2e
  refine Z_pop dl_320 rfl ?_
  refine Z_goto 1359 dl_321 (by decide) ?_
  exact K h ⟨hI, hJ.2.1, hJ.2.2.1, hJ.2.2.2.1, hJ.2.2.2.2.1, hJ.2.2.2.2.2⟩
theorem law_6 {b0 Ls : Nat} {xs : Nat → Int32} {h : Hp} {i : Int32} {I : Nat} (hL2 : Ls ≤ 320) (hi : i.toInt = I) (hL : I + 5 ≤ Ls) (hJ : J h) (K : ∀ h' : Hp, J h' → ZW b0 Ls xs h' 1359 (LZ i) []) : ZW b0 Ls xs h 324 (LZ i) [] := by
  have hI : Inv h := hJ.1
  refine Z_aload_n 1 dl_324 rfl rfl ?_
  refine Z_arg 1 (by decide) hi hL hL2 dl_325 dl_326 dl_327 dl_328 dl_329 ?_
  refine Z_call [.int (xs (I + 1))] [] cv_law_40 sk_85 rfl dl_330 rfl (Nat.le_of_ble_eq_true rfl) (by decide) (by decide) (c_Rod_purseX h hI _ _ rfl) (fun _ h1 hq => ?_)
  obtain ⟨r1, rfl, r1e⟩ := hq
  obtain ⟨rfl, r1E⟩ := r1e
  refine Z_pop dl_333 rfl ?_
  refine Z_aload_n 2 dl_334 rfl rfl ?_
  refine Z_arg 1 (by decide) hi hL hL2 dl_335 dl_336 dl_337 dl_338 dl_339 ?_
  refine Z_call [.int (xs (I + 1))] [] cv_law_43 sk_116 rfl dl_340 rfl (Nat.le_of_ble_eq_true rfl) (by decide) (by decide) (c_Mod_purseX h hI _ _ rfl) (fun _ h2 hq => ?_)
  obtain ⟨r2, rfl, r2e⟩ := hq
  obtain ⟨rfl, r2E⟩ := r2e
  refine Z_pop dl_343 rfl ?_
  refine Z_goto 1359 dl_344 (by decide) ?_
  exact K h ⟨hI, hJ.2.1, hJ.2.2.1, hJ.2.2.2.1, hJ.2.2.2.2.1, hJ.2.2.2.2.2⟩
theorem law_7 {b0 Ls : Nat} {xs : Nat → Int32} {h : Hp} {i : Int32} {I : Nat} (hL2 : Ls ≤ 320) (hi : i.toInt = I) (hL : I + 5 ≤ Ls) (hJ : J h) (K : ∀ h' : Hp, J h' → ZW b0 Ls xs h' 1359 (LZ i) []) : ZW b0 Ls xs h 347 (LZ i) [] := by
  have hI : Inv h := hJ.1
  refine Z_aload_n 1 dl_347 rfl rfl ?_
  refine Z_arg 1 (by decide) hi hL hL2 dl_348 dl_349 dl_350 dl_351 dl_352 ?_
  refine Z_arg 2 (by decide) hi hL hL2 dl_353 dl_354 dl_355 dl_356 dl_357 ?_
  refine Z_call [.int (xs (I + 1)), .int (xs (I + 2))] [] cv_law_44 sk_85 rfl dl_358 rfl (Nat.le_of_ble_eq_true rfl) (by decide) (by decide) (c_Rod_wetX h hI _ _ rfl _ _ rfl _ _ rfl rfl _ _ rfl rfl) (fun _ h1 hq => ?_)
  obtain ⟨r1, rfl, h1I, h1f⟩ := hq
  refine Z_pop dl_361 rfl ?_
  refine Z_aload_n 2 dl_362 rfl rfl ?_
  refine Z_arg 1 (by decide) hi hL hL2 dl_363 dl_364 dl_365 dl_366 dl_367 ?_
  refine Z_arg 2 (by decide) hi hL hL2 dl_368 dl_369 dl_370 dl_371 dl_372 ?_
  refine Z_call [.int (xs (I + 1)), .int (xs (I + 2))] [] cv_law_47 sk_116 rfl dl_373 rfl (Nat.le_of_ble_eq_true rfl) (by decide) (by decide) (c_Mod_wetX h1 h1I _ _ rfl _ _ rfl _ _ rfl rfl _ _ rfl rfl) (fun _ h2 hq => ?_)
  obtain ⟨r2, rfl, h2I, h2f⟩ := hq
  refine Z_pop dl_376 rfl ?_
  refine Z_goto 1359 dl_377 (by decide) ?_
  have wg := wg16 hI
  have w0 : h1.1 116 2 = h.1 1 0 := (h1f.1.1 116 2 rfl).trans (JA_wh hJ.2.2.1 (i := 0) (by decide)).symm
  have w1 : h1.1 116 3 = h.1 1 1 := (h1f.1.1 116 3 rfl).trans (JA_wh hJ.2.2.1 (i := 1) (by decide)).symm
  have E2 := h2f.2
  rw [w0, w1] at E2
  have hB := JB_wet hJ.2.2.2.1 h1f.2 E2 (fun q => by rw [h1f.1.1 117 (64 + (xs (I + 1)).toInt).toNat rfl, show (64 + (xs (I + 1)).toInt).toNat = 64 + ((xs (I + 1)).toInt).toNat by (first | decide +kernel | omega), ← JB_b hJ.2.2.2.1 (i := ((xs (I + 1)).toInt).toNat) (by (first | decide +kernel | omega))]) (fun q => by (first | decide +kernel | omega))
  exact K h2 ⟨h2I, (JT_fr h2f.1 rfl (JT_fr h1f.1 rfl hJ.2.1)), (JA_nA h2f.1 rfl (nA_Ewt E2 (fun q => by (first | decide +kernel | omega))) (JA_fr h1f.1 rfl hJ.2.2.1)), hB.1, (JS_fr h2f.1 rfl (JS_fr h1f.1 rfl hJ.2.2.2.2.1)), (JR_fr h2f.1 rfl (JR_fr h1f.1 rfl hJ.2.2.2.2.2))⟩
theorem law_8 {b0 Ls : Nat} {xs : Nat → Int32} {h : Hp} {i : Int32} {I : Nat} (hL2 : Ls ≤ 320) (hi : i.toInt = I) (hL : I + 5 ≤ Ls) (hJ : J h) (K : ∀ h' : Hp, J h' → ZW b0 Ls xs h' 1359 (LZ i) []) : ZW b0 Ls xs h 380 (LZ i) [] := by
  have hI : Inv h := hJ.1
  refine Z_aload_n 1 dl_380 rfl rfl ?_
  refine Z_arg 1 (by decide) hi hL hL2 dl_381 dl_382 dl_383 dl_384 dl_385 ?_
  refine Z_arg 2 (by decide) hi hL hL2 dl_386 dl_387 dl_388 dl_389 dl_390 ?_
  refine Z_bool dl_391 dl_394 dl_395 dl_398 (fun b1 b1e => ?_)
  refine Z_call [.int (xs (I + 1)), .int b1] [] cv_law_48 sk_85 rfl dl_399 rfl (Nat.le_of_ble_eq_true rfl) (by decide) (by decide) (c_Rod_ironX h hI _ _ rfl _ _ rfl _ _ rfl rfl _ _ rfl rfl) (fun _ h2 hq => ?_)
  obtain ⟨r2, rfl, h2I, h2f⟩ := hq
  refine Z_pop dl_402 rfl ?_
  refine Z_aload_n 2 dl_403 rfl rfl ?_
  refine Z_arg 1 (by decide) hi hL hL2 dl_404 dl_405 dl_406 dl_407 dl_408 ?_
  refine Z_arg 2 (by decide) hi hL hL2 dl_409 dl_410 dl_411 dl_412 dl_413 ?_
  refine Z_bool dl_414 dl_417 dl_418 dl_421 (fun b3 b3e => ?_)
  refine Z_call [.int (xs (I + 1)), .int b3] [] cv_law_52 sk_116 rfl dl_422 rfl (Nat.le_of_ble_eq_true rfl) (by decide) (by decide) (c_Mod_ironX h2 h2I _ _ rfl _ _ rfl _ _ rfl rfl _ _ rfl rfl) (fun _ h4 hq => ?_)
  obtain ⟨r4, rfl, h4I, h4f⟩ := hq
  refine Z_pop dl_425 rfl ?_
  refine Z_goto 1359 dl_426 (by decide) ?_
  obtain rfl : b3 = b1 := b3e.trans b1e.symm
  have wg := wg16 hI
  have w0 : h2.1 116 2 = h.1 1 0 := (h2f.1.1 116 2 rfl).trans (JA_wh hJ.2.2.1 (i := 0) (by decide)).symm
  have w1 : h2.1 116 3 = h.1 1 1 := (h2f.1.1 116 3 rfl).trans (JA_wh hJ.2.2.1 (i := 1) (by decide)).symm
  have E2 := h4f.2
  rw [w0, w1] at E2
  have hA := JA_row3 hI hJ.2.2.1 h2f.2 E2 (by (first | decide +kernel | omega)) (fun q => q) (fun x y p q => V_flag p q)
  exact K h4 ⟨h4I, (JT_fr h4f.1 rfl (JT_fr h2f.1 rfl hJ.2.1)), hA.1, (JB_nB h4f.1 rfl (nB_Er E2 (fun q => by (first | decide +kernel | omega))) (JB_fr h2f.1 rfl hJ.2.2.2.1)), (JS_fr h4f.1 rfl (JS_fr h2f.1 rfl hJ.2.2.2.2.1)), (JR_fr h4f.1 rfl (JR_Er hJ.2.2.2.2.2 h2f.2 (fun g x v => Or.inl ⟨rfl, by (first | decide +kernel | omega), by (first | decide +kernel | omega)⟩)))⟩
theorem law_9 {b0 Ls : Nat} {xs : Nat → Int32} {h : Hp} {i : Int32} {I : Nat} (hL2 : Ls ≤ 320) (hi : i.toInt = I) (hL : I + 5 ≤ Ls) (hJ : J h) (K : ∀ h' : Hp, J h' → ZW b0 Ls xs h' 1359 (LZ i) []) : ZW b0 Ls xs h 429 (LZ i) [] := by
  have hI : Inv h := hJ.1
  refine Z_aload_n 1 dl_429 rfl rfl ?_
  refine Z_arg 1 (by decide) hi hL hL2 dl_430 dl_431 dl_432 dl_433 dl_434 ?_
  refine Z_arg 2 (by decide) hi hL hL2 dl_435 dl_436 dl_437 dl_438 dl_439 ?_
  refine Z_call [.int (xs (I + 1)), .int (xs (I + 2))] [] cv_law_53 sk_85 rfl dl_440 rfl (Nat.le_of_ble_eq_true rfl) (by decide) (by decide) (c_Rod_oddX h hI _ _ rfl _ _ rfl _ _ rfl rfl _ _ rfl rfl) (fun _ h1 hq => ?_)
  obtain ⟨r1, rfl, h1I, h1f⟩ := hq
  refine Z_pop dl_443 rfl ?_
  refine Z_aload_n 2 dl_444 rfl rfl ?_
  refine Z_arg 1 (by decide) hi hL hL2 dl_445 dl_446 dl_447 dl_448 dl_449 ?_
  refine Z_arg 2 (by decide) hi hL hL2 dl_450 dl_451 dl_452 dl_453 dl_454 ?_
  refine Z_call [.int (xs (I + 1)), .int (xs (I + 2))] [] cv_law_56 sk_116 rfl dl_455 rfl (Nat.le_of_ble_eq_true rfl) (by decide) (by decide) (c_Mod_oddX h1 h1I _ _ rfl _ _ rfl _ _ rfl rfl _ _ rfl rfl) (fun _ h2 hq => ?_)
  obtain ⟨r2, rfl, h2I, h2f⟩ := hq
  refine Z_pop dl_458 rfl ?_
  refine Z_goto 1359 dl_459 (by decide) ?_
  have wg := wg16 hI
  have w0 : h1.1 116 2 = h.1 1 0 := (h1f.1.1 116 2 rfl).trans (JA_wh hJ.2.2.1 (i := 0) (by decide)).symm
  have w1 : h1.1 116 3 = h.1 1 1 := (h1f.1.1 116 3 rfl).trans (JA_wh hJ.2.2.1 (i := 1) (by decide)).symm
  have E2 := h2f.2
  rw [w0, w1] at E2
  have hA := JA_row3 hI hJ.2.2.1 h1f.2 E2 (by (first | decide +kernel | omega)) (fun q => ⟨q.1, q.2.1⟩) (fun x y p q => p.trans q.symm)
  exact K h2 ⟨h2I, (JT_fr h2f.1 rfl (JT_fr h1f.1 rfl hJ.2.1)), hA.1, (JB_nB h2f.1 rfl (nB_Er E2 (fun q => by (first | decide +kernel | omega))) (JB_fr h1f.1 rfl hJ.2.2.2.1)), (JS_fr h2f.1 rfl (JS_fr h1f.1 rfl hJ.2.2.2.2.1)), (JR_fr h2f.1 rfl (JR_fr h1f.1 rfl hJ.2.2.2.2.2))⟩
theorem law_10 {b0 Ls : Nat} {xs : Nat → Int32} {h : Hp} {i : Int32} {I : Nat} (hL2 : Ls ≤ 320) (hi : i.toInt = I) (hL : I + 5 ≤ Ls) (hJ : J h) (K : ∀ h' : Hp, J h' → ZW b0 Ls xs h' 1359 (LZ i) []) : ZW b0 Ls xs h 462 (LZ i) [] := by
  have hI : Inv h := hJ.1
  refine Z_aload_n 1 dl_462 rfl rfl ?_
  refine Z_arg 1 (by decide) hi hL hL2 dl_463 dl_464 dl_465 dl_466 dl_467 ?_
  refine Z_arg 2 (by decide) hi hL hL2 dl_468 dl_469 dl_470 dl_471 dl_472 ?_
  refine Z_call [.int (xs (I + 1)), .int (xs (I + 2))] [] cv_law_57 sk_85 rfl dl_473 rfl (Nat.le_of_ble_eq_true rfl) (by decide) (by decide) (c_Rod_claimX h hI _ _ rfl _ _ rfl _ _ rfl rfl _ _ rfl rfl) (fun _ h1 hq => ?_)
  obtain ⟨r1, rfl, h1I, h1f⟩ := hq
  refine Z_pop dl_476 rfl ?_
  refine Z_aload_n 2 dl_477 rfl rfl ?_
  refine Z_arg 1 (by decide) hi hL hL2 dl_478 dl_479 dl_480 dl_481 dl_482 ?_
  refine Z_arg 2 (by decide) hi hL hL2 dl_483 dl_484 dl_485 dl_486 dl_487 ?_
  refine Z_call [.int (xs (I + 1)), .int (xs (I + 2))] [] cv_law_60 sk_116 rfl dl_488 rfl (Nat.le_of_ble_eq_true rfl) (by decide) (by decide) (c_Mod_claimX h1 h1I _ _ rfl _ _ rfl _ _ rfl rfl _ _ rfl rfl) (fun _ h2 hq => ?_)
  obtain ⟨r2, rfl, h2I, h2f⟩ := hq
  refine Z_pop dl_491 rfl ?_
  refine Z_goto 1359 dl_492 (by decide) ?_
  have wg := wg16 hI
  have w0 : h1.1 116 2 = h.1 1 0 := (h1f.1.1 116 2 rfl).trans (JA_wh hJ.2.2.1 (i := 0) (by decide)).symm
  have w1 : h1.1 116 3 = h.1 1 1 := (h1f.1.1 116 3 rfl).trans (JA_wh hJ.2.2.1 (i := 1) (by decide)).symm
  have E2 := h2f.2
  rw [w0, w1] at E2
  have hA := JA_row3 hI hJ.2.2.1 h1f.2 E2 (by (first | decide +kernel | omega)) (fun q => ⟨q.1, q.2.1⟩) (fun x y p q => p.trans q.symm)
  exact K h2 ⟨h2I, (JT_fr h2f.1 rfl (JT_fr h1f.1 rfl hJ.2.1)), hA.1, (JB_nB h2f.1 rfl (nB_Er E2 (fun q => by (first | decide +kernel | omega))) (JB_fr h1f.1 rfl hJ.2.2.2.1)), (JS_fr h2f.1 rfl (JS_fr h1f.1 rfl hJ.2.2.2.2.1)), (JR_fr h2f.1 rfl (JR_fr h1f.1 rfl hJ.2.2.2.2.2))⟩
theorem law_11 {b0 Ls : Nat} {xs : Nat → Int32} {h : Hp} {i : Int32} {I : Nat} (hL2 : Ls ≤ 320) (hi : i.toInt = I) (hL : I + 5 ≤ Ls) (hJ : J h) (K : ∀ h' : Hp, J h' → ZW b0 Ls xs h' 1359 (LZ i) []) : ZW b0 Ls xs h 495 (LZ i) [] := by
  have hI : Inv h := hJ.1
  refine Z_aload_n 1 dl_495 rfl rfl ?_
  refine Z_arg 1 (by decide) hi hL hL2 dl_496 dl_497 dl_498 dl_499 dl_500 ?_
  refine Z_arg 2 (by decide) hi hL hL2 dl_501 dl_502 dl_503 dl_504 dl_505 ?_
  refine Z_call [.int (xs (I + 1)), .int (xs (I + 2))] [] cv_law_61 sk_85 rfl dl_506 rfl (Nat.le_of_ble_eq_true rfl) (by decide) (by decide) (c_Rod_fundX h hI _ _ rfl _ _ rfl) (fun _ h1 hq => ?_)
  obtain ⟨r1, rfl, h1I, h1f⟩ := hq
  refine Z_pop dl_509 rfl ?_
  refine Z_aload_n 2 dl_510 rfl rfl ?_
  refine Z_arg 1 (by decide) hi hL hL2 dl_511 dl_512 dl_513 dl_514 dl_515 ?_
  refine Z_arg 2 (by decide) hi hL hL2 dl_516 dl_517 dl_518 dl_519 dl_520 ?_
  refine Z_call [.int (xs (I + 1)), .int (xs (I + 2))] [] cv_law_64 sk_116 rfl dl_521 rfl (Nat.le_of_ble_eq_true rfl) (by decide) (by decide) (c_Mod_fundX h1 h1I _ _ rfl _ _ rfl) (fun _ h2 hq => ?_)
  obtain ⟨r2, rfl, h2I, h2f⟩ := hq
  refine Z_pop dl_524 rfl ?_
  refine Z_goto 1359 dl_525 (by decide) ?_
  have hB := JB_fund hJ.2.2.2.1 h1f.2 h2f.2 (fun q => by (first | decide +kernel | omega))
  exact K h2 ⟨h2I, (JT_fr h2f.1 rfl (JT_fr h1f.1 rfl hJ.2.1)), (JA_nA h2f.1 rfl (nA_Er h2f.2 (fun q => by (first | decide +kernel | omega))) (JA_fr h1f.1 rfl hJ.2.2.1)), hB.1, (JS_fr h2f.1 rfl (JS_fr h1f.1 rfl hJ.2.2.2.2.1)), (JR_fr h2f.1 rfl (JR_Er hJ.2.2.2.2.2 h1f.2 (fun g x v => Or.inr (Or.inr ⟨rfl, by rw [v]; omega, by rw [v]; omega⟩))))⟩
theorem law_12 {b0 Ls : Nat} {xs : Nat → Int32} {h : Hp} {i : Int32} {I : Nat} (hL2 : Ls ≤ 320) (hi : i.toInt = I) (hL : I + 5 ≤ Ls) (hJ : J h) (K : ∀ h' : Hp, J h' → ZW b0 Ls xs h' 1359 (LZ i) []) : ZW b0 Ls xs h 528 (LZ i) [] := by
  have hI : Inv h := hJ.1
  refine Z_aload_n 1 dl_528 rfl rfl ?_
  refine Z_arg 1 (by decide) hi hL hL2 dl_529 dl_530 dl_531 dl_532 dl_533 ?_
  refine Z_arg 2 (by decide) hi hL hL2 dl_534 dl_535 dl_536 dl_537 dl_538 ?_
  refine Z_call [.int (xs (I + 1)), .int (xs (I + 2))] [] cv_law_65 sk_85 rfl dl_539 rfl (Nat.le_of_ble_eq_true rfl) (by decide) (by decide) (c_Rod_cutX h hI _ _ rfl _ _ rfl _ _ rfl rfl) (fun _ h1 hq => ?_)
  obtain ⟨r1, rfl, h1I, h1f⟩ := hq
  refine Z_pop dl_542 rfl ?_
  refine Z_aload_n 2 dl_543 rfl rfl ?_
  refine Z_arg 1 (by decide) hi hL hL2 dl_544 dl_545 dl_546 dl_547 dl_548 ?_
  refine Z_arg 2 (by decide) hi hL hL2 dl_549 dl_550 dl_551 dl_552 dl_553 ?_
  refine Z_call [.int (xs (I + 1)), .int (xs (I + 2))] [] cv_law_68 sk_116 rfl dl_554 rfl (Nat.le_of_ble_eq_true rfl) (by decide) (by decide) (c_Mod_cutX h1 h1I _ _ rfl _ _ rfl _ _ rfl rfl) (fun _ h2 hq => ?_)
  obtain ⟨r2, rfl, h2I, h2f⟩ := hq
  refine Z_pop dl_557 rfl ?_
  refine Z_goto 1359 dl_558 (by decide) ?_
  have hA := JA_cut hJ.2.2.1 h1f.2 h2f.2 Iff.rfl rfl (h1f.1.1 117 84 rfl)
  exact K h2 ⟨h2I, (JT_fr h2f.1 rfl (JT_fr h1f.1 rfl hJ.2.1)), hA.1, (JB_nB h2f.1 rfl (nB_cut h2f.2) (JB_fr h1f.1 rfl hJ.2.2.2.1)), (JS_fr h2f.1 rfl (JS_fr h1f.1 rfl hJ.2.2.2.2.1)), (JR_fr h2f.1 rfl (JR_fr h1f.1 rfl hJ.2.2.2.2.2))⟩
theorem law_13 {b0 Ls : Nat} {xs : Nat → Int32} {h : Hp} {i : Int32} {I : Nat} (hL2 : Ls ≤ 320) (hi : i.toInt = I) (hL : I + 5 ≤ Ls) (hJ : J h) (K : ∀ h' : Hp, J h' → ZW b0 Ls xs h' 1359 (LZ i) []) : ZW b0 Ls xs h 561 (LZ i) [] := by
  have hI : Inv h := hJ.1
  refine Z_aload_n 1 dl_561 rfl rfl ?_
  refine Z_arg 1 (by decide) hi hL hL2 dl_562 dl_563 dl_564 dl_565 dl_566 ?_
  refine Z_arg 2 (by decide) hi hL hL2 dl_567 dl_568 dl_569 dl_570 dl_571 ?_
  refine Z_arg 3 (by decide) hi hL hL2 dl_572 dl_573 dl_574 dl_575 dl_576 ?_
  refine Z_call [.int (xs (I + 1)), .int (xs (I + 2)), .int (xs (I + 3))] [] cv_law_69 sk_85 rfl dl_577 rfl (Nat.le_of_ble_eq_true rfl) (by decide) (by decide) (c_Rod_oweX h hI _ _ rfl _ _ rfl _ _ rfl _ _ rfl rfl) (fun _ h1 hq => ?_)
  obtain ⟨r1, rfl, h1I, h1f⟩ := hq
  refine Z_pop dl_580 rfl ?_
  refine Z_aload_n 2 dl_581 rfl rfl ?_
  refine Z_arg 1 (by decide) hi hL hL2 dl_582 dl_583 dl_584 dl_585 dl_586 ?_
  refine Z_arg 2 (by decide) hi hL hL2 dl_587 dl_588 dl_589 dl_590 dl_591 ?_
  refine Z_arg 3 (by decide) hi hL hL2 dl_592 dl_593 dl_594 dl_595 dl_596 ?_
  refine Z_call [.int (xs (I + 1)), .int (xs (I + 2)), .int (xs (I + 3))] [] cv_law_73 sk_116 rfl dl_597 rfl (Nat.le_of_ble_eq_true rfl) (by decide) (by decide) (c_Mod_oweX h1 h1I _ _ rfl _ _ rfl _ _ rfl _ _ rfl rfl) (fun _ h2 hq => ?_)
  obtain ⟨r2, rfl, h2I, h2f⟩ := hq
  refine Z_pop dl_600 rfl ?_
  refine Z_goto 1359 dl_601 (by decide) ?_
  have t0 : h1.1 117 86 = h.1 7 4 := (h1f.1.1 117 86 rfl).trans (JA_c86 hJ.2.2.1).symm
  have E2 := h2f.2
  have hA := JA_owe hJ.2.2.1 h1f.2 E2 Iff.rfl (hI 7 4).1 (congrArg Int32.toInt t0) rfl
  exact K h2 ⟨h2I, (JT_fr h2f.1 rfl (JT_fr h1f.1 rfl hJ.2.1)), hA.1, (JB_nB h2f.1 rfl (nB_owe E2 (show (0 : Int) ≤ _ from (h1I 117 86).1)) (JB_fr h1f.1 rfl hJ.2.2.2.1)), (JS_fr h2f.1 rfl (JS_fr h1f.1 rfl hJ.2.2.2.2.1)), (JR_fr h2f.1 rfl (JR_owe hJ.2.2.2.2.2 rfl h1f.2 (fun q => by (first | decide +kernel | omega)) (hI 7 4).1))⟩
theorem law_14 {b0 Ls : Nat} {xs : Nat → Int32} {h : Hp} {i : Int32} {I : Nat} (hL2 : Ls ≤ 320) (hi : i.toInt = I) (hL : I + 5 ≤ Ls) (hJ : J h) (K : ∀ h' : Hp, J h' → ZW b0 Ls xs h' 1359 (LZ i) []) : ZW b0 Ls xs h 604 (LZ i) [] := by
  have hI : Inv h := hJ.1
  refine Z_aload_n 1 dl_604 rfl rfl ?_
  refine Z_arg 1 (by decide) hi hL hL2 dl_605 dl_606 dl_607 dl_608 dl_609 ?_
  refine Z_call [.int (xs (I + 1))] [] cv_law_74 sk_85 rfl dl_610 rfl (Nat.le_of_ble_eq_true rfl) (by decide) (by decide) (c_Rod_payX h hI _ _ rfl _ _ rfl rfl) (fun _ h1 hq => ?_)
  obtain ⟨r1, rfl, h1I, h1f⟩ := hq
  refine Z_pop dl_613 rfl ?_
  refine Z_aload_n 2 dl_614 rfl rfl ?_
  refine Z_arg 1 (by decide) hi hL hL2 dl_615 dl_616 dl_617 dl_618 dl_619 ?_
  refine Z_call [.int (xs (I + 1))] [] cv_law_77 sk_116 rfl dl_620 rfl (Nat.le_of_ble_eq_true rfl) (by decide) (by decide) (c_Mod_payX h1 h1I _ _ rfl _ _ rfl rfl) (fun _ h2 hq => ?_)
  obtain ⟨r2, rfl, h2I, h2f⟩ := hq
  refine Z_pop dl_623 rfl ?_
  refine Z_goto 1359 dl_624 (by decide) ?_
  have t0 : h1.1 117 86 = h.1 7 4 := (h1f.1.1 117 86 rfl).trans (JA_c86 hJ.2.2.1).symm
  have E2 := h2f.2
  rw [t0] at E2
  have hA := JA_pay hJ.2.2.1 h1f.2 E2 Iff.rfl (fun q => q.2) rfl (JA_c86 hJ.2.2.1)
  exact K h2 ⟨h2I, (JT_fr h2f.1 rfl (JT_fr h1f.1 rfl hJ.2.1)), hA.1, (JB_nB h2f.1 rfl (nB_Ew E2 (by decide)) (JB_fr h1f.1 rfl hJ.2.2.2.1)), (JS_fr h2f.1 rfl (JS_fr h1f.1 rfl hJ.2.2.2.2.1)), (JR_fr h2f.1 rfl (JR_pay hJ.2.2.2.2.2 h1f.2 (fun q => q.2)))⟩
theorem law_15 {b0 Ls : Nat} {xs : Nat → Int32} {h : Hp} {i : Int32} {I : Nat} (hL2 : Ls ≤ 320) (hi : i.toInt = I) (hL : I + 5 ≤ Ls) (hJ : J h) (K : ∀ h' : Hp, J h' → ZW b0 Ls xs h' 1359 (LZ i) []) : ZW b0 Ls xs h 627 (LZ i) [] := by
  have hI : Inv h := hJ.1
  refine Z_aload_n 1 dl_627 rfl rfl ?_
  refine Z_arg 1 (by decide) hi hL hL2 dl_628 dl_629 dl_630 dl_631 dl_632 ?_
  refine Z_call [.int (xs (I + 1))] [] cv_law_78 sk_85 rfl dl_633 rfl (Nat.le_of_ble_eq_true rfl) (by decide) (by decide) (c_Rod_rainW h hI _ _ rfl _ _ rfl rfl _ _ rfl rfl) (fun _ h1 hq => ?_)
  obtain ⟨r1, rfl, h1I, h1f⟩ := hq
  refine Z_pop dl_636 rfl ?_
  refine Z_aload_n 2 dl_637 rfl rfl ?_
  refine Z_arg 1 (by decide) hi hL hL2 dl_638 dl_639 dl_640 dl_641 dl_642 ?_
  refine Z_call [.int (xs (I + 1))] [] cv_law_81 sk_116 rfl dl_643 rfl (Nat.le_of_ble_eq_true rfl) (by decide) (by decide) (c_Mod_rainW h1 h1I _ _ rfl _ _ rfl rfl _ _ rfl rfl (fun i hi => by rw [h1f.1.1 117 i rfl, ← (JB_w hJ.2.2.2.1 hi).1]; exact (JB_w hJ.2.2.2.1 hi).2)) (fun _ h2 hq => ?_)
  obtain ⟨r2, rfl, h2I, h2f⟩ := hq
  refine Z_pop dl_646 rfl ?_
  refine Z_goto 1359 dl_647 (by decide) ?_
  have wg := wg16 hI
  have w0 : h1.1 116 2 = h.1 1 0 := (h1f.1.1 116 2 rfl).trans (JA_wh hJ.2.2.1 (i := 0) (by decide)).symm
  have w1 : h1.1 116 3 = h.1 1 1 := (h1f.1.1 116 3 rfl).trans (JA_wh hJ.2.2.1 (i := 1) (by decide)).symm
  have E2 := h2f.2
  rw [w0, w1] at E2
  have hB := JB_rain hJ.2.2.2.1 h1f.1 rfl h1f.2.1 _ h2f.1 rfl E2.1
  exact K h2 ⟨h2I, (JT_fr h2f.1 rfl (JT_fr h1f.1 rfl hJ.2.1)), (JA_nA h2f.1 rfl (nA_rain E2.1) (JA_fr h1f.1 rfl hJ.2.2.1)), hB, (JS_fr h2f.1 rfl (JS_fr h1f.1 rfl hJ.2.2.2.2.1)), (JR_fr h2f.1 rfl (JR_fr h1f.1 rfl hJ.2.2.2.2.2))⟩
theorem law_16 {b0 Ls : Nat} {xs : Nat → Int32} {h : Hp} {i : Int32} {I : Nat} (hL2 : Ls ≤ 320) (hi : i.toInt = I) (hL : I + 5 ≤ Ls) (hJ : J h) (K : ∀ h' : Hp, J h' → ZW b0 Ls xs h' 1359 (LZ i) []) : ZW b0 Ls xs h 650 (LZ i) [] := by
  have hI : Inv h := hJ.1
  refine Z_aload_n 1 dl_650 rfl rfl ?_
  refine Z_arg 1 (by decide) hi hL hL2 dl_651 dl_652 dl_653 dl_654 dl_655 ?_
  refine Z_arg 2 (by decide) hi hL hL2 dl_656 dl_657 dl_658 dl_659 dl_660 ?_
  refine Z_arg 3 (by decide) hi hL hL2 dl_661 dl_662 dl_663 dl_664 dl_665 ?_
  refine Z_call [.int (xs (I + 1)), .int (xs (I + 2)), .int (xs (I + 3))] [] cv_law_82 sk_85 rfl dl_666 rfl (Nat.le_of_ble_eq_true rfl) (by decide) (by decide) (c_Rod_twitchX h hI _ _ rfl _ _ rfl _ _ rfl _ _ rfl rfl _ _ rfl rfl _ _ rfl rfl _ _ rfl rfl (JR_i hJ.2.2.2.2.2)) (fun _ h1 hq => ?_)
  obtain ⟨r1, rfl, r1e⟩ := hq
  obtain ⟨rfl, r1E⟩ := r1e
  refine Z_pop dl_669 rfl ?_
  refine Z_aload_n 2 dl_670 rfl rfl ?_
  refine Z_arg 1 (by decide) hi hL hL2 dl_671 dl_672 dl_673 dl_674 dl_675 ?_
  refine Z_arg 2 (by decide) hi hL hL2 dl_676 dl_677 dl_678 dl_679 dl_680 ?_
  refine Z_arg 3 (by decide) hi hL hL2 dl_681 dl_682 dl_683 dl_684 dl_685 ?_
  refine Z_call [.int (xs (I + 1)), .int (xs (I + 2)), .int (xs (I + 3))] [] cv_law_85 sk_116 rfl dl_686 rfl (Nat.le_of_ble_eq_true rfl) (by decide) (by decide) (c_Mod_twitchX h hI _ _ rfl _ _ rfl _ _ rfl _ _ rfl rfl _ _ rfl rfl _ _ rfl rfl _ _ rfl rfl) (fun _ h2 hq => ?_)
  obtain ⟨r2, rfl, r2e⟩ := hq
  obtain ⟨rfl, r2E⟩ := r2e
  refine Z_pop dl_689 rfl ?_
  refine Z_goto 1359 dl_690 (by decide) ?_
  exact K h ⟨hI, hJ.2.1, hJ.2.2.1, hJ.2.2.2.1, hJ.2.2.2.2.1, hJ.2.2.2.2.2⟩
theorem law_17 {b0 Ls : Nat} {xs : Nat → Int32} {h : Hp} {i : Int32} {I : Nat} (hL2 : Ls ≤ 320) (hi : i.toInt = I) (hL : I + 5 ≤ Ls) (hJ : J h) (K : ∀ h' : Hp, J h' → ZW b0 Ls xs h' 1359 (LZ i) []) : ZW b0 Ls xs h 693 (LZ i) [] := by
  have hI : Inv h := hJ.1
  refine Z_aload_n 1 dl_693 rfl rfl ?_
  refine Z_arg 1 (by decide) hi hL hL2 dl_694 dl_695 dl_696 dl_697 dl_698 ?_
  refine Z_arg 2 (by decide) hi hL hL2 dl_699 dl_700 dl_701 dl_702 dl_703 ?_
  refine Z_arg 3 (by decide) hi hL hL2 dl_704 dl_705 dl_706 dl_707 dl_708 ?_
  refine Z_arg 4 (by decide) hi hL hL2 dl_709 dl_710 dl_711 dl_712 dl_713 ?_
  refine Z_bool dl_714 dl_717 dl_718 dl_721 (fun b1 b1e => ?_)
  refine Z_call [.int (xs (I + 1)), .int (xs (I + 2)), .int (xs (I + 3)), .int b1] [] cv_law_86 sk_85 rfl dl_722 rfl (Nat.le_of_ble_eq_true rfl) (by decide) (by decide) (c_Rod_seeX h hI _ _ rfl _ _ rfl _ _ rfl _ _ rfl _ _ rfl rfl _ _ rfl rfl _ _ rfl rfl) (fun _ h2 hq => ?_)
  obtain ⟨r2, rfl, h2I, h2f⟩ := hq
  refine Z_pop dl_725 rfl ?_
  refine Z_aload_n 2 dl_726 rfl rfl ?_
  refine Z_arg 1 (by decide) hi hL hL2 dl_727 dl_728 dl_729 dl_730 dl_731 ?_
  refine Z_arg 2 (by decide) hi hL hL2 dl_732 dl_733 dl_734 dl_735 dl_736 ?_
  refine Z_arg 3 (by decide) hi hL hL2 dl_737 dl_738 dl_739 dl_740 dl_741 ?_
  refine Z_arg 4 (by decide) hi hL hL2 dl_742 dl_743 dl_744 dl_745 dl_746 ?_
  refine Z_bool dl_747 dl_750 dl_751 dl_754 (fun b3 b3e => ?_)
  refine Z_call [.int (xs (I + 1)), .int (xs (I + 2)), .int (xs (I + 3)), .int b3] [] cv_law_90 sk_116 rfl dl_755 rfl (Nat.le_of_ble_eq_true rfl) (by decide) (by decide) (c_Mod_seeX h2 h2I _ _ rfl _ _ rfl _ _ rfl _ _ rfl _ _ rfl rfl _ _ rfl rfl _ _ rfl rfl) (fun _ h4 hq => ?_)
  obtain ⟨r4, rfl, h4I, h4f⟩ := hq
  refine Z_pop dl_758 rfl ?_
  refine Z_goto 1359 dl_759 (by decide) ?_
  obtain rfl : b3 = b1 := b3e.trans b1e.symm
  have w0 : h2.1 116 2 = h.1 1 0 := (h2f.1.1 116 2 rfl).trans (JA_wh hJ.2.2.1 (i := 0) (by decide)).symm
  have w1 : h2.1 116 3 = h.1 1 1 := (h2f.1.1 116 3 rfl).trans (JA_wh hJ.2.2.1 (i := 1) (by decide)).symm
  have t0 : h2.1 117 111 = h.1 12 4 := (h2f.1.1 117 111 rfl).trans (JA_c111 hJ.2.2.1).symm
  have E2 := h4f.2
  rw [w0, w1] at E2
  have hA := JA_see hJ.2.2.1 h2f.2 E2 Iff.rfl (hI 12 4).1 (congrArg Int32.toInt t0) rfl
  exact K h4 ⟨h4I, (JT_fr h4f.1 rfl (JT_fr h2f.1 rfl hJ.2.1)), hA.1, (JB_nB h4f.1 rfl (nB_see E2 (show (0 : Int) ≤ _ from (h2I 117 111).1)) (JB_fr h2f.1 rfl hJ.2.2.2.1)), (JS_fr h4f.1 rfl (JS_fr h2f.1 rfl hJ.2.2.2.2.1)), (JR_fr h4f.1 rfl (JR_see hJ.2.2.2.2.2 rfl h2f.2 (fun q => by (first | decide +kernel | omega)) (hI 12 4).1))⟩
theorem law_18 {b0 Ls : Nat} {xs : Nat → Int32} {h : Hp} {i : Int32} {I : Nat} (hL2 : Ls ≤ 320) (hi : i.toInt = I) (hL : I + 5 ≤ Ls) (hJ : J h) (K : ∀ h' : Hp, J h' → ZW b0 Ls xs h' 1359 (LZ i) []) : ZW b0 Ls xs h 762 (LZ i) [] := by
  have hI : Inv h := hJ.1
  refine Z_aload_n 1 dl_762 rfl rfl ?_
  refine Z_arg 1 (by decide) hi hL hL2 dl_763 dl_764 dl_765 dl_766 dl_767 ?_
  refine Z_call [.int (xs (I + 1))] [] cv_law_91 sk_85 rfl dl_768 rfl (Nat.le_of_ble_eq_true rfl) (by decide) (by decide) (c_Rod_forgetX h hI _ _ rfl _ _ rfl rfl) (fun _ h1 hq => ?_)
  obtain ⟨r1, rfl, h1I, h1f⟩ := hq
  refine Z_pop dl_771 rfl ?_
  refine Z_aload_n 2 dl_772 rfl rfl ?_
  refine Z_arg 1 (by decide) hi hL hL2 dl_773 dl_774 dl_775 dl_776 dl_777 ?_
  refine Z_call [.int (xs (I + 1))] [] cv_law_94 sk_116 rfl dl_778 rfl (Nat.le_of_ble_eq_true rfl) (by decide) (by decide) (c_Mod_forgetX h1 h1I _ _ rfl _ _ rfl rfl) (fun _ h2 hq => ?_)
  obtain ⟨r2, rfl, h2I, h2f⟩ := hq
  refine Z_pop dl_781 rfl ?_
  refine Z_goto 1359 dl_782 (by decide) ?_
  have t0 : h1.1 117 111 = h.1 12 4 := (h1f.1.1 117 111 rfl).trans (JA_c111 hJ.2.2.1).symm
  have E2 := h2f.2
  rw [t0] at E2
  have hA := JA_forget hJ.2.2.1 h1f.2 E2 Iff.rfl (fun q => q.2) rfl (JA_c111 hJ.2.2.1)
  exact K h2 ⟨h2I, (JT_fr h2f.1 rfl (JT_fr h1f.1 rfl hJ.2.1)), hA.1, (JB_nB h2f.1 rfl (nB_Ew E2 (by decide)) (JB_fr h1f.1 rfl hJ.2.2.2.1)), (JS_fr h2f.1 rfl (JS_fr h1f.1 rfl hJ.2.2.2.2.1)), (JR_fr h2f.1 rfl (JR_forget hJ.2.2.2.2.2 h1f.2 (fun q => q.2)))⟩
theorem law_19 {b0 Ls : Nat} {xs : Nat → Int32} {h : Hp} {i : Int32} {I : Nat} (hL2 : Ls ≤ 320) (hi : i.toInt = I) (hL : I + 5 ≤ Ls) (hJ : J h) (K : ∀ h' : Hp, J h' → ZW b0 Ls xs h' 1359 (LZ i) []) : ZW b0 Ls xs h 785 (LZ i) [] := by
  have hI : Inv h := hJ.1
  refine Z_aload_n 1 dl_785 rfl rfl ?_
  refine Z_call [] [] cv_law_95 sk_85 rfl dl_786 rfl (Nat.le_of_ble_eq_true rfl) (by decide) (by decide) (c_Rod_naturesX h hI _ _ rfl rfl (JR_i hJ.2.2.2.2.2) (JR_t hJ.2.2.2.2.2)) (fun _ h1 hq => ?_)
  obtain ⟨r1, rfl, r1e⟩ := hq
  obtain ⟨rfl, r1E⟩ := r1e
  refine Z_pop dl_789 rfl ?_
  refine Z_aload_n 2 dl_790 rfl rfl ?_
  refine Z_call [] [] cv_law_98 sk_116 rfl dl_791 rfl (Nat.le_of_ble_eq_true rfl) (by decide) (by decide) (c_Mod_naturesX h hI _ _ rfl rfl (JR_tm hJ.2.2.1 hJ.2.2.2.2.2)) (fun _ h2 hq => ?_)
  obtain ⟨r2, rfl, r2e⟩ := hq
  obtain ⟨rfl, r2E⟩ := r2e
  refine Z_pop dl_794 rfl ?_
  refine Z_goto 1359 dl_795 (by decide) ?_
  exact K h ⟨hI, hJ.2.1, hJ.2.2.1, hJ.2.2.2.1, hJ.2.2.2.2.1, hJ.2.2.2.2.2⟩
theorem law_20 {b0 Ls : Nat} {xs : Nat → Int32} {h : Hp} {i : Int32} {I : Nat} (hL2 : Ls ≤ 320) (hi : i.toInt = I) (hL : I + 5 ≤ Ls) (hJ : J h) (K : ∀ h' : Hp, J h' → ZW b0 Ls xs h' 1359 (LZ i) []) : ZW b0 Ls xs h 798 (LZ i) [] := by
  have hI : Inv h := hJ.1
  refine Z_aload_n 1 dl_798 rfl rfl ?_
  refine Z_arg 1 (by decide) hi hL hL2 dl_799 dl_800 dl_801 dl_802 dl_803 ?_
  refine Z_call [.int (xs (I + 1))] [] cv_law_99 sk_85 rfl dl_804 rfl (Nat.le_of_ble_eq_true rfl) (by decide) (by decide) (c_Rod_reachesX h hI _ _ rfl _ _ rfl rfl (JR_i hJ.2.2.2.2.2) (JR_t hJ.2.2.2.2.2)) (fun _ h1 hq => ?_)
  obtain ⟨r1, rfl, r1e⟩ := hq
  obtain ⟨rfl, r1E⟩ := r1e
  refine Z_pop dl_807 rfl ?_
  refine Z_aload_n 2 dl_808 rfl rfl ?_
  refine Z_arg 1 (by decide) hi hL hL2 dl_809 dl_810 dl_811 dl_812 dl_813 ?_
  refine Z_call [.int (xs (I + 1))] [] cv_law_102 sk_116 rfl dl_814 rfl (Nat.le_of_ble_eq_true rfl) (by decide) (by decide) (c_Mod_reachesX h hI _ _ rfl _ _ rfl rfl (JR_tm hJ.2.2.1 hJ.2.2.2.2.2)) (fun _ h2 hq => ?_)
  obtain ⟨r2, rfl, r2e⟩ := hq
  obtain ⟨rfl, r2E⟩ := r2e
  refine Z_pop dl_817 rfl ?_
  refine Z_goto 1359 dl_818 (by decide) ?_
  exact K h ⟨hI, hJ.2.1, hJ.2.2.1, hJ.2.2.2.1, hJ.2.2.2.2.1, hJ.2.2.2.2.2⟩
theorem law_21 {b0 Ls : Nat} {xs : Nat → Int32} {h : Hp} {i : Int32} {I : Nat} (hL2 : Ls ≤ 320) (hi : i.toInt = I) (hL : I + 5 ≤ Ls) (hJ : J h) (K : ∀ h' : Hp, J h' → ZW b0 Ls xs h' 1359 (LZ i) []) : ZW b0 Ls xs h 821 (LZ i) [] := by
  have hI : Inv h := hJ.1
  refine Z_aload_n 1 dl_821 rfl rfl ?_
  refine Z_arg 1 (by decide) hi hL hL2 dl_822 dl_823 dl_824 dl_825 dl_826 ?_
  refine Z_arg 2 (by decide) hi hL hL2 dl_827 dl_828 dl_829 dl_830 dl_831 ?_
  refine Z_call [.int (xs (I + 1)), .int (xs (I + 2))] [] cv_law_103 sk_85 rfl dl_832 rfl (Nat.le_of_ble_eq_true rfl) (by decide) (by decide) (c_Rod_testX h hI _ _ rfl _ _ rfl _ _ rfl rfl _ _ rfl rfl _ _ rfl rfl (JR_i hJ.2.2.2.2.2) (JR_t hJ.2.2.2.2.2)) (fun _ h1 hq => ?_)
  obtain ⟨r1, rfl, r1e⟩ := hq
  obtain ⟨rfl, r1E⟩ := r1e
  refine Z_pop dl_835 rfl ?_
  refine Z_aload_n 2 dl_836 rfl rfl ?_
  refine Z_arg 1 (by decide) hi hL hL2 dl_837 dl_838 dl_839 dl_840 dl_841 ?_
  refine Z_arg 2 (by decide) hi hL hL2 dl_842 dl_843 dl_844 dl_845 dl_846 ?_
  refine Z_call [.int (xs (I + 1)), .int (xs (I + 2))] [] cv_law_106 sk_116 rfl dl_847 rfl (Nat.le_of_ble_eq_true rfl) (by decide) (by decide) (c_Mod_testX h hI _ _ rfl _ _ rfl _ _ rfl rfl _ _ rfl rfl _ _ rfl rfl (JR_tm hJ.2.2.1 hJ.2.2.2.2.2)) (fun _ h2 hq => ?_)
  obtain ⟨r2, rfl, r2e⟩ := hq
  obtain ⟨rfl, r2E⟩ := r2e
  refine Z_pop dl_850 rfl ?_
  refine Z_goto 1359 dl_851 (by decide) ?_
  exact K h ⟨hI, hJ.2.1, hJ.2.2.1, hJ.2.2.2.1, hJ.2.2.2.2.1, hJ.2.2.2.2.2⟩
theorem law_22 {b0 Ls : Nat} {xs : Nat → Int32} {h : Hp} {i : Int32} {I : Nat} (hL2 : Ls ≤ 320) (hi : i.toInt = I) (hL : I + 5 ≤ Ls) (hJ : J h) (K : ∀ h' : Hp, J h' → ZW b0 Ls xs h' 1359 (LZ i) []) : ZW b0 Ls xs h 854 (LZ i) [] := by
  have hI : Inv h := hJ.1
  refine Z_aload_n 1 dl_854 rfl rfl ?_
  refine Z_arg 1 (by decide) hi hL hL2 dl_855 dl_856 dl_857 dl_858 dl_859 ?_
  refine Z_arg 2 (by decide) hi hL hL2 dl_860 dl_861 dl_862 dl_863 dl_864 ?_
  refine Z_arg 3 (by decide) hi hL hL2 dl_865 dl_866 dl_867 dl_868 dl_869 ?_
  refine Z_arg 4 (by decide) hi hL hL2 dl_870 dl_871 dl_872 dl_873 dl_874 ?_
  refine Z_call [.int (xs (I + 1)), .int (xs (I + 2)), .int (xs (I + 3)), .int (xs (I + 4))] [] cv_law_107 sk_85 rfl dl_875 rfl (Nat.le_of_ble_eq_true rfl) (by decide) (by decide) (c_Rod_showX h hI _ _ rfl _ _ rfl _ _ rfl _ _ rfl _ _ rfl rfl _ _ rfl rfl _ _ rfl rfl _ _ rfl rfl (JR_i hJ.2.2.2.2.2)) (fun _ h1 hq => ?_)
  obtain ⟨r1, rfl, h1I, h1f⟩ := hq
  refine Z_pop dl_878 rfl ?_
  refine Z_aload_n 2 dl_879 rfl rfl ?_
  refine Z_arg 1 (by decide) hi hL hL2 dl_880 dl_881 dl_882 dl_883 dl_884 ?_
  refine Z_arg 2 (by decide) hi hL hL2 dl_885 dl_886 dl_887 dl_888 dl_889 ?_
  refine Z_arg 3 (by decide) hi hL hL2 dl_890 dl_891 dl_892 dl_893 dl_894 ?_
  refine Z_arg 4 (by decide) hi hL hL2 dl_895 dl_896 dl_897 dl_898 dl_899 ?_
  refine Z_call [.int (xs (I + 1)), .int (xs (I + 2)), .int (xs (I + 3)), .int (xs (I + 4))] [] cv_law_111 sk_116 rfl dl_900 rfl (Nat.le_of_ble_eq_true rfl) (by decide) (by decide) (c_Mod_showX h1 h1I _ _ rfl _ _ rfl _ _ rfl _ _ rfl _ _ rfl rfl _ _ rfl rfl _ _ rfl rfl _ _ rfl rfl) (fun _ h2 hq => ?_)
  obtain ⟨r2, rfl, h2I, h2f⟩ := hq
  refine Z_pop dl_903 rfl ?_
  refine Z_goto 1359 dl_904 (by decide) ?_
  exact K h2 ⟨h2I, (JT_fr h2f.1 rfl (JT_fr h1f.1 rfl hJ.2.1)), (JA_fr h2f.1 rfl (JA_fr h1f.1 rfl hJ.2.2.1)), (JB_fr h2f.1 rfl (JB_fr h1f.1 rfl hJ.2.2.2.1)), (JS_fr h2f.1 rfl (JS_fr h1f.1 rfl hJ.2.2.2.2.1)), (JR_fr h2f.1 rfl (JR_fr h1f.1 rfl hJ.2.2.2.2.2))⟩
theorem law_23 {b0 Ls : Nat} {xs : Nat → Int32} {h : Hp} {i : Int32} {I : Nat} (hL2 : Ls ≤ 320) (hi : i.toInt = I) (hL : I + 5 ≤ Ls) (hJ : J h) (K : ∀ h' : Hp, J h' → ZW b0 Ls xs h' 1359 (LZ i) []) : ZW b0 Ls xs h 907 (LZ i) [] := by
  have hI : Inv h := hJ.1
  refine Z_aload_n 1 dl_907 rfl rfl ?_
  refine Z_arg 1 (by decide) hi hL hL2 dl_908 dl_909 dl_910 dl_911 dl_912 ?_
  refine Z_arg 2 (by decide) hi hL hL2 dl_913 dl_914 dl_915 dl_916 dl_917 ?_
  refine Z_arg 3 (by decide) hi hL hL2 dl_918 dl_919 dl_920 dl_921 dl_922 ?_
  refine Z_call [.int (xs (I + 1)), .int (xs (I + 2)), .int (xs (I + 3))] [] cv_law_112 sk_85 rfl dl_923 rfl (Nat.le_of_ble_eq_true rfl) (by decide) (by decide) (c_Rod_boreX h hI _ _ rfl _ _ rfl _ _ rfl _ _ rfl rfl _ _ rfl rfl _ _ rfl rfl _ _ rfl rfl) (fun _ h1 hq => ?_)
  obtain ⟨r1, rfl, h1I, h1f⟩ := hq
  refine Z_pop dl_926 rfl ?_
  refine Z_aload_n 2 dl_927 rfl rfl ?_
  refine Z_arg 1 (by decide) hi hL hL2 dl_928 dl_929 dl_930 dl_931 dl_932 ?_
  refine Z_arg 2 (by decide) hi hL hL2 dl_933 dl_934 dl_935 dl_936 dl_937 ?_
  refine Z_arg 3 (by decide) hi hL hL2 dl_938 dl_939 dl_940 dl_941 dl_942 ?_
  refine Z_call [.int (xs (I + 1)), .int (xs (I + 2)), .int (xs (I + 3))] [] cv_law_115 sk_116 rfl dl_943 rfl (Nat.le_of_ble_eq_true rfl) (by decide) (by decide) (c_Mod_boreX h1 h1I _ _ rfl _ _ rfl _ _ rfl _ _ rfl rfl _ _ rfl rfl _ _ rfl rfl _ _ rfl rfl) (fun _ h2 hq => ?_)
  obtain ⟨r2, rfl, h2I, h2f⟩ := hq
  refine Z_pop dl_946 rfl ?_
  refine Z_goto 1359 dl_947 (by decide) ?_
  have wg := wg16 hI
  have w0 : h1.1 116 2 = h.1 1 0 := (h1f.1.1 116 2 rfl).trans (JA_wh hJ.2.2.1 (i := 0) (by decide)).symm
  have w1 : h1.1 116 3 = h.1 1 1 := (h1f.1.1 116 3 rfl).trans (JA_wh hJ.2.2.1 (i := 1) (by decide)).symm
  have E2 := h2f.2
  rw [w0, w1] at E2
  have hB := JB_bore2 hJ.2.2.1 hJ.2.2.2.1 h1f.1 rfl wg.2 h1f.2 E2
  exact K h2 ⟨h2I, (JT_fr h2f.1 rfl (JT_fr h1f.1 rfl hJ.2.1)), (JA_nA h2f.1 rfl (nA_BE E2 (fun q => by (first | decide +kernel | omega))) (JA_fr h1f.1 rfl hJ.2.2.1)), hB.1, (JS_fr h2f.1 rfl (JS_fr h1f.1 rfl hJ.2.2.2.2.1)), (JR_fr h2f.1 rfl (JR_bore hJ.2.2.2.2.2 h1f.2 (fun q => by (first | decide +kernel | omega))))⟩
theorem law_24 {b0 Ls : Nat} {xs : Nat → Int32} {h : Hp} {i : Int32} {I : Nat} (hL2 : Ls ≤ 320) (hi : i.toInt = I) (hL : I + 5 ≤ Ls) (hJ : J h) (K : ∀ h' : Hp, J h' → ZW b0 Ls xs h' 1359 (LZ i) []) : ZW b0 Ls xs h 950 (LZ i) [] := by
  have hI : Inv h := hJ.1
  refine Z_aload_n 1 dl_950 rfl rfl ?_
  refine Z_arg 1 (by decide) hi hL hL2 dl_951 dl_952 dl_953 dl_954 dl_955 ?_
  refine Z_arg 2 (by decide) hi hL hL2 dl_956 dl_957 dl_958 dl_959 dl_960 ?_
  refine Z_arg 3 (by decide) hi hL hL2 dl_961 dl_962 dl_963 dl_964 dl_965 ?_
  refine Z_arg 4 (by decide) hi hL hL2 dl_966 dl_967 dl_968 dl_969 dl_970 ?_
  refine Z_call [.int (xs (I + 1)), .int (xs (I + 2)), .int (xs (I + 3)), .int (xs (I + 4))] [] cv_law_116 sk_85 rfl dl_971 rfl (Nat.le_of_ble_eq_true rfl) (by decide) (by decide) (c_Rod_plan h hI _ _ rfl _ _ rfl _ _ rfl _ _ rfl) (fun _ h1 hq => ?_)
  obtain ⟨r1, rfl, h1I, h1f⟩ := hq
  refine Z_pop2L dl_974 rfl ?_
  refine Z_aload_n 2 dl_975 rfl rfl ?_
  refine Z_arg 1 (by decide) hi hL hL2 dl_976 dl_977 dl_978 dl_979 dl_980 ?_
  refine Z_arg 2 (by decide) hi hL hL2 dl_981 dl_982 dl_983 dl_984 dl_985 ?_
  refine Z_arg 3 (by decide) hi hL hL2 dl_986 dl_987 dl_988 dl_989 dl_990 ?_
  refine Z_arg 4 (by decide) hi hL hL2 dl_991 dl_992 dl_993 dl_994 dl_995 ?_
  refine Z_call [.int (xs (I + 1)), .int (xs (I + 2)), .int (xs (I + 3)), .int (xs (I + 4))] [] cv_law_120 sk_116 rfl dl_996 rfl (Nat.le_of_ble_eq_true rfl) (by decide) (by decide) (c_Mod_plan h1 h1I _ _ rfl _ _ rfl _ _ rfl _ _ rfl _ _ rfl rfl _ _ rfl rfl) (fun _ h2 hq => ?_)
  obtain ⟨r2, rfl, h2I, h2f⟩ := hq
  refine Z_pop2L dl_999 rfl ?_
  refine Z_goto 1359 dl_1000 (by decide) ?_
  exact K h2 ⟨h2I, (JT_fr h2f rfl (JT_fr h1f rfl hJ.2.1)), (JA_fr h2f rfl (JA_fr h1f rfl hJ.2.2.1)), (JB_fr h2f rfl (JB_fr h1f rfl hJ.2.2.2.1)), (JS_fr h2f rfl (JS_fr h1f rfl hJ.2.2.2.2.1)), (JR_fr h2f rfl (JR_fr h1f rfl hJ.2.2.2.2.2))⟩
theorem law_25 {b0 Ls : Nat} {xs : Nat → Int32} {h : Hp} {i : Int32} {I : Nat} (hL2 : Ls ≤ 320) (hi : i.toInt = I) (hL : I + 5 ≤ Ls) (hJ : J h) (K : ∀ h' : Hp, J h' → ZW b0 Ls xs h' 1359 (LZ i) []) : ZW b0 Ls xs h 1003 (LZ i) [] := by
  have hI : Inv h := hJ.1
  refine Z_aload_n 1 dl_1003 rfl rfl ?_
  refine Z_arg 1 (by decide) hi hL hL2 dl_1004 dl_1005 dl_1006 dl_1007 dl_1008 ?_
  refine Z_call [.int (xs (I + 1))] [] cv_law_121 sk_85 rfl dl_1009 rfl (Nat.le_of_ble_eq_true rfl) (by decide) (by decide) (c_Rod_bedsX h hI _ _ rfl _ _ rfl rfl _ _ rfl rfl) (fun _ h1 hq => ?_)
  obtain ⟨r1, rfl, h1I, h1f⟩ := hq
  refine Z_pop dl_1012 rfl ?_
  refine Z_aload_n 2 dl_1013 rfl rfl ?_
  refine Z_arg 1 (by decide) hi hL hL2 dl_1014 dl_1015 dl_1016 dl_1017 dl_1018 ?_
  refine Z_call [.int (xs (I + 1))] [] cv_law_124 sk_116 rfl dl_1019 rfl (Nat.le_of_ble_eq_true rfl) (by decide) (by decide) (c_Mod_bedsX h1 h1I _ _ rfl _ _ rfl rfl _ _ rfl rfl) (fun _ h2 hq => ?_)
  obtain ⟨r2, rfl, h2I, h2f⟩ := hq
  refine Z_pop dl_1022 rfl ?_
  refine Z_goto 1359 dl_1023 (by decide) ?_
  exact K h2 ⟨h2I, (JT_fr h2f.1 rfl (JT_fr h1f.1 rfl hJ.2.1)), (JA_fr h2f.1 rfl (JA_fr h1f.1 rfl hJ.2.2.1)), (JB_fr h2f.1 rfl (JB_fr h1f.1 rfl hJ.2.2.2.1)), (JS_fr h2f.1 rfl (JS_fr h1f.1 rfl hJ.2.2.2.2.1)), (JR_fr h2f.1 rfl (JR_fr h1f.1 rfl hJ.2.2.2.2.2))⟩
theorem law_26 {b0 Ls : Nat} {xs : Nat → Int32} {h : Hp} {i : Int32} {I : Nat} (hL2 : Ls ≤ 320) (hi : i.toInt = I) (hL : I + 5 ≤ Ls) (hJ : J h) (K : ∀ h' : Hp, J h' → ZW b0 Ls xs h' 1359 (LZ i) []) : ZW b0 Ls xs h 1026 (LZ i) [] := by
  have hI : Inv h := hJ.1
  refine Z_aload_n 1 dl_1026 rfl rfl ?_
  refine Z_arg 1 (by decide) hi hL hL2 dl_1027 dl_1028 dl_1029 dl_1030 dl_1031 ?_
  refine Z_arg 2 (by decide) hi hL hL2 dl_1032 dl_1033 dl_1034 dl_1035 dl_1036 ?_
  refine Z_call [.int (xs (I + 1)), .int (xs (I + 2))] [] cv_law_125 sk_85 rfl dl_1037 rfl (Nat.le_of_ble_eq_true rfl) (by decide) (by decide) (c_Rod_nextX h hI _ _ rfl _ _ rfl _ _ rfl rfl _ _ rfl rfl) (fun _ h1 hq => ?_)
  obtain ⟨r1, rfl, h1I, h1f⟩ := hq
  refine Z_aload_n 2 dl_1040 rfl rfl ?_
  refine Z_arg 1 (by decide) hi hL hL2 dl_1041 dl_1042 dl_1043 dl_1044 dl_1045 ?_
  refine Z_arg 2 (by decide) hi hL hL2 dl_1046 dl_1047 dl_1048 dl_1049 dl_1050 ?_
  refine Z_call [.int (xs (I + 1)), .int (xs (I + 2))] [.int r1] cv_law_128 sk_116 rfl dl_1051 rfl (Nat.le_of_ble_eq_true rfl) (by decide) (by decide) (c_Mod_next_X h1 h1I _ _ rfl _ _ rfl _ _ rfl rfl _ _ rfl rfl) (fun _ h2 hq => ?_)
  obtain ⟨r2, rfl, h2I, h2f⟩ := hq
  refine Z_icmp_eq 1359 rfl rfl dl_1054 (by decide) (fun _ => ?_) (fun ne => absurd ?_ ne)
  · exact K h2 ⟨h2I, (JT_fr h2f.1 rfl (JT_fr h1f.1 rfl hJ.2.1)), (JA_fr h2f.1 rfl (JA_fr h1f.1 rfl hJ.2.2.1)), (JB_fr h2f.1 rfl (JB_fr h1f.1 rfl hJ.2.2.2.1)), (JS_fr h2f.1 rfl (JS_fr h1f.1 rfl hJ.2.2.2.2.1)), (JR_fr h2f.1 rfl (JR_fr h1f.1 rfl hJ.2.2.2.2.2))⟩
  · have wg := wg16 hI
    have q2 := h2f.2
    have w0 : h1.1 116 2 = h.1 1 0 := (h1f.1.1 116 2 rfl).trans (JA_wh hJ.2.2.1 (i := 0) (by decide)).symm
    have w1 : h1.1 116 3 = h.1 1 1 := (h1f.1.1 116 3 rfl).trans (JA_wh hJ.2.2.1 (i := 1) (by decide)).symm
    have m7 : h1.1 117 = h.1 117 := funext (fun i => h1f.1.1 117 i rfl)
    rw [w0, w1, m7] at q2
    exact congrArg Int32.toInt (TSa_un h1f.2 q2 (fun q => next_same hI hJ.2.2.2.1 q.1 (by (first | decide +kernel | omega))))
theorem law_27 {b0 Ls : Nat} {xs : Nat → Int32} {h : Hp} {i : Int32} {I : Nat} (hL2 : Ls ≤ 320) (hi : i.toInt = I) (hL : I + 5 ≤ Ls) (hJ : J h) (K : ∀ h' : Hp, J h' → ZW b0 Ls xs h' 1359 (LZ i) []) : ZW b0 Ls xs h 1059 (LZ i) [] := by
  have hI : Inv h := hJ.1
  refine Z_aload_n 1 dl_1059 rfl rfl ?_
  refine Z_arg 1 (by decide) hi hL hL2 dl_1060 dl_1061 dl_1062 dl_1063 dl_1064 ?_
  refine Z_call [.int (xs (I + 1))] [] cv_law_129 sk_85 rfl dl_1065 rfl (Nat.le_of_ble_eq_true rfl) (by decide) (by decide) (c_Rod_crashX h hI _ _ rfl _ _ rfl rfl (JR_d hI hJ.2.2.1 hJ.2.2.2.2.2) (JR_p hJ.2.2.2.2.2)) (fun _ h1 hq => ?_)
  obtain ⟨r1, rfl, r1e⟩ := hq
  obtain ⟨rfl, r1E⟩ := r1e
  refine Z_pop dl_1068 rfl ?_
  refine Z_aload_n 2 dl_1069 rfl rfl ?_
  refine Z_arg 1 (by decide) hi hL hL2 dl_1070 dl_1071 dl_1072 dl_1073 dl_1074 ?_
  refine Z_call [.int (xs (I + 1))] [] cv_law_132 sk_116 rfl dl_1075 rfl (Nat.le_of_ble_eq_true rfl) (by decide) (by decide) (c_Mod_crashX h hI _ _ rfl _ _ rfl rfl (JR_dm hJ.2.2.1 hJ.2.2.2.2.2) (JR_pm hJ.2.2.2.1 hJ.2.2.2.2.2)) (fun _ h2 hq => ?_)
  obtain ⟨r2, rfl, h2I, h2f⟩ := hq
  refine Z_pop dl_1078 rfl ?_
  refine Z_goto 1359 dl_1079 (by decide) ?_
  exact K h2 ⟨h2I, (JT_fr h2f.1 rfl hJ.2.1), (JA_fr h2f.1 rfl hJ.2.2.1), (JB_fr h2f.1 rfl hJ.2.2.2.1), (JS_fr h2f.1 rfl hJ.2.2.2.2.1), (JR_fr h2f.1 rfl hJ.2.2.2.2.2)⟩
theorem law_28 {b0 Ls : Nat} {xs : Nat → Int32} {h : Hp} {i : Int32} {I : Nat} (hL2 : Ls ≤ 320) (hi : i.toInt = I) (hL : I + 5 ≤ Ls) (hJ : J h) (K : ∀ h' : Hp, J h' → ZW b0 Ls xs h' 1359 (LZ i) []) : ZW b0 Ls xs h 1082 (LZ i) [] := by
  have hI : Inv h := hJ.1
  refine Z_aload_n 1 dl_1082 rfl rfl ?_
  refine Z_arg 1 (by decide) hi hL hL2 dl_1083 dl_1084 dl_1085 dl_1086 dl_1087 ?_
  refine Z_call [.int (xs (I + 1))] [] cv_law_133 sk_85 rfl dl_1088 rfl (Nat.le_of_ble_eq_true rfl) (by decide) (by decide) (c_Rod_saveX h hI _ _ rfl _ _ rfl rfl (JR_d hI hJ.2.2.1 hJ.2.2.2.2.2) (JR_p hJ.2.2.2.2.2)) (fun _ h1 hq => ?_)
  obtain ⟨r1, rfl, r1e⟩ := hq
  obtain ⟨rfl, r1E⟩ := r1e
  refine Z_pop dl_1091 rfl ?_
  refine Z_aload_n 2 dl_1092 rfl rfl ?_
  refine Z_arg 1 (by decide) hi hL hL2 dl_1093 dl_1094 dl_1095 dl_1096 dl_1097 ?_
  refine Z_call [.int (xs (I + 1))] [] cv_law_136 sk_116 rfl dl_1098 rfl (Nat.le_of_ble_eq_true rfl) (by decide) (by decide) (c_Mod_saveX h hI _ _ rfl _ _ rfl rfl (JR_dm hJ.2.2.1 hJ.2.2.2.2.2) (JR_pm hJ.2.2.2.1 hJ.2.2.2.2.2)) (fun _ h2 hq => ?_)
  obtain ⟨r2, rfl, h2I, h2f⟩ := hq
  refine Z_pop dl_1101 rfl ?_
  refine Z_goto 1359 dl_1102 (by decide) ?_
  exact K h2 ⟨h2I, (JT_fr h2f.1 rfl hJ.2.1), (JA_fr h2f.1 rfl hJ.2.2.1), (JB_fr h2f.1 rfl hJ.2.2.2.1), (JS_fr h2f.1 rfl hJ.2.2.2.2.1), (JR_fr h2f.1 rfl hJ.2.2.2.2.2)⟩
theorem law_29 {b0 Ls : Nat} {xs : Nat → Int32} {h : Hp} {i : Int32} {I : Nat} (hL2 : Ls ≤ 320) (hi : i.toInt = I) (hL : I + 5 ≤ Ls) (hJ : J h) (K : ∀ h' : Hp, J h' → ZW b0 Ls xs h' 1359 (LZ i) []) : ZW b0 Ls xs h 1105 (LZ i) [] := by
  have hI : Inv h := hJ.1
  refine Z_aload_n 1 dl_1105 rfl rfl ?_
  refine Z_arg 1 (by decide) hi hL hL2 dl_1106 dl_1107 dl_1108 dl_1109 dl_1110 ?_
  refine Z_arg 2 (by decide) hi hL hL2 dl_1111 dl_1112 dl_1113 dl_1114 dl_1115 ?_
  refine Z_call [.int (xs (I + 1)), .int (xs (I + 2))] [] cv_law_137 sk_85 rfl dl_1116 rfl (Nat.le_of_ble_eq_true rfl) (by decide) (by decide) (c_Rod_luckX h hI _ _ rfl _ _ rfl _ _ rfl rfl _ _ rfl rfl) (fun _ h1 hq => ?_)
  obtain ⟨r1, rfl, h1I, h1f⟩ := hq
  refine Z_pop dl_1119 rfl ?_
  refine Z_aload_n 2 dl_1120 rfl rfl ?_
  refine Z_arg 1 (by decide) hi hL hL2 dl_1121 dl_1122 dl_1123 dl_1124 dl_1125 ?_
  refine Z_arg 2 (by decide) hi hL hL2 dl_1126 dl_1127 dl_1128 dl_1129 dl_1130 ?_
  refine Z_call [.int (xs (I + 1)), .int (xs (I + 2))] [] cv_law_140 sk_116 rfl dl_1131 rfl (Nat.le_of_ble_eq_true rfl) (by decide) (by decide) (c_Mod_luckX h1 h1I _ _ rfl _ _ rfl _ _ rfl rfl _ _ rfl rfl) (fun _ h2 hq => ?_)
  obtain ⟨r2, rfl, h2I, h2f⟩ := hq
  refine Z_pop dl_1134 rfl ?_
  refine Z_goto 1359 dl_1135 (by decide) ?_
  exact K h2 ⟨h2I, (JT_fr h2f.1 rfl (JT_fr h1f.1 rfl hJ.2.1)), (JA_fr h2f.1 rfl (JA_fr h1f.1 rfl hJ.2.2.1)), (JB_fr h2f.1 rfl (JB_fr h1f.1 rfl hJ.2.2.2.1)), (JS_fr h2f.1 rfl (JS_fr h1f.1 rfl hJ.2.2.2.2.1)), (JR_fr h2f.1 rfl (JR_fr h1f.1 rfl hJ.2.2.2.2.2))⟩
theorem law_30 {b0 Ls : Nat} {xs : Nat → Int32} {h : Hp} {i : Int32} {I : Nat} (hL2 : Ls ≤ 320) (hi : i.toInt = I) (hL : I + 5 ≤ Ls) (hJ : J h) (K : ∀ h' : Hp, J h' → ZW b0 Ls xs h' 1359 (LZ i) []) : ZW b0 Ls xs h 1138 (LZ i) [] := by
  have hI : Inv h := hJ.1
  refine Z_aload_n 1 dl_1138 rfl rfl ?_
  refine Z_arg 1 (by decide) hi hL hL2 dl_1139 dl_1140 dl_1141 dl_1142 dl_1143 ?_
  refine Z_call [.int (xs (I + 1))] [] cv_law_141 sk_85 rfl dl_1144 rfl (Nat.le_of_ble_eq_true rfl) (by decide) (by decide) (c_Rod_keepX h hI _ _ rfl) (fun _ h1 hq => ?_)
  obtain ⟨r1, rfl, h1I, h1f⟩ := hq
  refine Z_pop dl_1147 rfl ?_
  refine Z_aload_n 2 dl_1148 rfl rfl ?_
  refine Z_arg 1 (by decide) hi hL hL2 dl_1149 dl_1150 dl_1151 dl_1152 dl_1153 ?_
  refine Z_call [.int (xs (I + 1))] [] cv_law_144 sk_116 rfl dl_1154 rfl (Nat.le_of_ble_eq_true rfl) (by decide) (by decide) (c_Mod_keepX h1 h1I _ _ rfl) (fun _ h2 hq => ?_)
  obtain ⟨r2, rfl, h2I, h2f⟩ := hq
  refine Z_pop dl_1157 rfl ?_
  refine Z_goto 1359 dl_1158 (by decide) ?_
  have hA := JA_keep hJ.2.2.1 h1f.1 h2f.1 rfl rfl rfl h1f.2 h2f.2
  exact K h2 ⟨h2I, (JT_fr h2f.1 rfl (JT_fr h1f.1 rfl hJ.2.1)), hA.1, (JB_keep hJ.2.2.2.1 h1f.1 h2f.1 rfl rfl rfl h1f.2 h2f.2), (JS_fr h2f.1 rfl (JS_fr h1f.1 rfl hJ.2.2.2.2.1)), (JR_fr h2f.1 rfl (JR_keep hJ.2.2.2.2.2 h1f.1 rfl h1f.2))⟩
theorem law_31 {b0 Ls : Nat} {xs : Nat → Int32} {h : Hp} {i : Int32} {I : Nat} (hL2 : Ls ≤ 320) (hi : i.toInt = I) (hL : I + 5 ≤ Ls) (hJ : J h) (K : ∀ h' : Hp, J h' → ZW b0 Ls xs h' 1359 (LZ i) []) : ZW b0 Ls xs h 1161 (LZ i) [] := by
  have hI : Inv h := hJ.1
  refine Z_aload_n 1 dl_1161 rfl rfl ?_
  refine Z_arg 1 (by decide) hi hL hL2 dl_1162 dl_1163 dl_1164 dl_1165 dl_1166 ?_
  refine Z_call [.int (xs (I + 1))] [] cv_law_145 sk_85 rfl dl_1167 rfl (Nat.le_of_ble_eq_true rfl) (by decide) (by decide) (c_Rod_backW h hI _ _ rfl) (fun _ h1 hq => ?_)
  obtain ⟨r1, rfl, h1I, h1f⟩ := hq
  refine Z_pop dl_1170 rfl ?_
  refine Z_aload_n 2 dl_1171 rfl rfl ?_
  refine Z_arg 1 (by decide) hi hL hL2 dl_1172 dl_1173 dl_1174 dl_1175 dl_1176 ?_
  refine Z_call [.int (xs (I + 1))] [] cv_law_148 sk_116 rfl dl_1177 rfl (Nat.le_of_ble_eq_true rfl) (by decide) (by decide) (c_Mod_backW h1 h1I _ _ rfl _ _ rfl rfl _ _ rfl rfl) (fun _ h2 hq => ?_)
  obtain ⟨r2, rfl, h2I, h2f⟩ := hq
  refine Z_pop dl_1180 rfl ?_
  refine Z_goto 1359 dl_1181 (by decide) ?_
  have wg := wg16 hI
  have hA := JA_back hJ.2.2.1 h1f.1 h2f.1 rfl rfl rfl rfl h1f.2.1 h2f.2.1
  have hB := JB_back hJ.2.2.1 hJ.2.2.2.1 h1f.1 h2f.1 rfl rfl rfl h1f.2.1 h2f.2.1
  have W0 : h1.1 116 2 = h1.1 1 0 := (h2f.1.1 116 2 rfl).symm.trans ((JA_wh hA (i := 0) (by decide)).symm.trans (h2f.1.1 1 0 rfl))
  have W1 : h1.1 116 3 = h1.1 1 1 := (h2f.1.1 116 3 rfl).symm.trans ((JA_wh hA (i := 1) (by decide)).symm.trans (h2f.1.1 1 1 rfl))
  have E2 := h2f.2.2
  rw [W0, W1, show h1.1 118 0 = h.1 87 0 from (h1f.1.1 118 0 rfl).trans hJ.2.2.1.2.1.1.symm, show h1.1 118 1 = h.1 87 1 from (h1f.1.1 118 1 rfl).trans hJ.2.2.1.2.1.2.symm] at E2
  have wq := wg16 h1I
  exact K h2 ⟨h2I, (JT_fr h2f.1 rfl (JT_fr h1f.1 rfl hJ.2.1)), hA, hB, (JS_fr h2f.1 rfl (JS_fr h1f.1 rfl hJ.2.2.2.2.1)), (JR_fr h2f.1 rfl (JR_back hJ.2.2.2.2.2 h1f.1 rfl rfl h1f.2.1))⟩
theorem law_32 {b0 Ls : Nat} {xs : Nat → Int32} {h : Hp} {i : Int32} {I : Nat} (hL2 : Ls ≤ 320) (hi : i.toInt = I) (hL : I + 5 ≤ Ls) (hJ : J h) (K : ∀ h' : Hp, J h' → ZW b0 Ls xs h' 1359 (LZ i) []) : ZW b0 Ls xs h 1184 (LZ i) [] := by
  have hI : Inv h := hJ.1
  refine Z_aload_n 1 dl_1184 rfl rfl ?_
  refine Z_arg 1 (by decide) hi hL hL2 dl_1185 dl_1186 dl_1187 dl_1188 dl_1189 ?_
  refine Z_arg 2 (by decide) hi hL hL2 dl_1190 dl_1191 dl_1192 dl_1193 dl_1194 ?_
  refine Z_arg 3 (by decide) hi hL hL2 dl_1195 dl_1196 dl_1197 dl_1198 dl_1199 ?_
  refine Z_call [.int (xs (I + 1)), .int (xs (I + 2)), .int (xs (I + 3))] [] cv_law_149 sk_85 rfl dl_1200 rfl (Nat.le_of_ble_eq_true rfl) (by decide) (by decide) (c_Rod_sheetZ h hI _ _ rfl _ _ rfl _ _ rfl) (fun _ h1 hq => ?_)
  obtain ⟨r1, rfl, h1I, h1f⟩ := hq
  refine Z_pop dl_1203 rfl ?_
  refine Z_aload_n 2 dl_1204 rfl rfl ?_
  refine Z_arg 1 (by decide) hi hL hL2 dl_1205 dl_1206 dl_1207 dl_1208 dl_1209 ?_
  refine Z_arg 2 (by decide) hi hL hL2 dl_1210 dl_1211 dl_1212 dl_1213 dl_1214 ?_
  refine Z_arg 3 (by decide) hi hL hL2 dl_1215 dl_1216 dl_1217 dl_1218 dl_1219 ?_
  refine Z_call [.int (xs (I + 1)), .int (xs (I + 2)), .int (xs (I + 3))] [] cv_law_152 sk_116 rfl dl_1220 rfl (Nat.le_of_ble_eq_true rfl) (by decide) (by decide) (c_Mod_sheetZ h1 h1I _ _ rfl _ _ rfl _ _ rfl) (fun _ h2 hq => ?_)
  obtain ⟨r2, rfl, h2I, h2f⟩ := hq
  refine Z_pop dl_1223 rfl ?_
  refine Z_goto 1359 dl_1224 (by decide) ?_
  have hS := JS_sheet hJ.2.2.2.2.1 h1f.1 h2f.1 rfl rfl (fun q => by (first | decide +kernel | omega)) h1f.2 h2f.2
  exact K h2 ⟨h2I, (JT_fr h2f.1 rfl (JT_fr h1f.1 rfl hJ.2.1)), (JA_fr h2f.1 rfl (JA_fr h1f.1 rfl hJ.2.2.1)), (JB_fr h2f.1 rfl (JB_fr h1f.1 rfl hJ.2.2.2.1)), hS.1, (JR_fr h2f.1 rfl (JR_fr h1f.1 rfl hJ.2.2.2.2.2))⟩
theorem law_33 {b0 Ls : Nat} {xs : Nat → Int32} {h : Hp} {i : Int32} {I : Nat} (hL2 : Ls ≤ 320) (hi : i.toInt = I) (hL : I + 5 ≤ Ls) (hJ : J h) (K : ∀ h' : Hp, J h' → ZW b0 Ls xs h' 1359 (LZ i) []) : ZW b0 Ls xs h 1227 (LZ i) [] := by
  have hI : Inv h := hJ.1
  refine Z_aload_n 1 dl_1227 rfl rfl ?_
  refine Z_arg 1 (by decide) hi hL hL2 dl_1228 dl_1229 dl_1230 dl_1231 dl_1232 ?_
  refine Z_arg 2 (by decide) hi hL hL2 dl_1233 dl_1234 dl_1235 dl_1236 dl_1237 ?_
  refine Z_arg 3 (by decide) hi hL hL2 dl_1238 dl_1239 dl_1240 dl_1241 dl_1242 ?_
  refine Z_call [.int (xs (I + 1)), .int (xs (I + 2)), .int (xs (I + 3))] [] cv_law_153 sk_85 rfl dl_1243 rfl (Nat.le_of_ble_eq_true rfl) (by decide) (by decide) (c_Rod_layZ h hI _ _ rfl _ _ rfl _ _ rfl _ _ rfl rfl _ _ rfl rfl _ _ rfl rfl _ _ rfl rfl _ _ rfl rfl _ _ rfl rfl _ _ rfl rfl _ _ rfl rfl) (fun _ h1 hq => ?_)
  obtain ⟨r1, rfl, h1I, h1f⟩ := hq
  refine Z_pop dl_1246 rfl ?_
  refine Z_aload_n 2 dl_1247 rfl rfl ?_
  refine Z_arg 1 (by decide) hi hL hL2 dl_1248 dl_1249 dl_1250 dl_1251 dl_1252 ?_
  refine Z_arg 2 (by decide) hi hL hL2 dl_1253 dl_1254 dl_1255 dl_1256 dl_1257 ?_
  refine Z_arg 3 (by decide) hi hL hL2 dl_1258 dl_1259 dl_1260 dl_1261 dl_1262 ?_
  refine Z_call [.int (xs (I + 1)), .int (xs (I + 2)), .int (xs (I + 3))] [] cv_law_156 sk_116 rfl dl_1263 rfl (Nat.le_of_ble_eq_true rfl) (by decide) (by decide) (c_Mod_layZ h1 h1I _ _ rfl _ _ rfl _ _ rfl) (fun _ h2 hq => ?_)
  obtain ⟨r2, rfl, h2I, h2f⟩ := hq
  refine Z_pop dl_1266 rfl ?_
  refine Z_goto 1359 dl_1267 (by decide) ?_
  have hS := JS_lay hI hJ.2.2.2.2.1 h1f.2 h2f.2
  exact K h2 ⟨h2I, (JT_fr h2f.1 rfl (JT_fr h1f.1 rfl hJ.2.1)), (JA_fr h2f.1 rfl (JA_fr h1f.1 rfl hJ.2.2.1)), (JB_fr h2f.1 rfl (JB_fr h1f.1 rfl hJ.2.2.2.1)), hS.1, (JR_fr h2f.1 rfl (JR_fr h1f.1 rfl hJ.2.2.2.2.2))⟩
theorem law_34 {b0 Ls : Nat} {xs : Nat → Int32} {h : Hp} {i : Int32} {I : Nat} (hL2 : Ls ≤ 320) (hi : i.toInt = I) (hL : I + 5 ≤ Ls) (hJ : J h) (K : ∀ h' : Hp, J h' → ZW b0 Ls xs h' 1359 (LZ i) []) : ZW b0 Ls xs h 1270 (LZ i) [] := by
  have hI : Inv h := hJ.1
  refine Z_aload_n 1 dl_1270 rfl rfl ?_
  refine Z_arg 1 (by decide) hi hL hL2 dl_1271 dl_1272 dl_1273 dl_1274 dl_1275 ?_
  refine Z_arg 2 (by decide) hi hL hL2 dl_1276 dl_1277 dl_1278 dl_1279 dl_1280 ?_
  refine Z_arg 3 (by decide) hi hL hL2 dl_1281 dl_1282 dl_1283 dl_1284 dl_1285 ?_
  refine Z_arg 4 (by decide) hi hL hL2 dl_1286 dl_1287 dl_1288 dl_1289 dl_1290 ?_
  refine Z_call [.int (xs (I + 1)), .int (xs (I + 2)), .int (xs (I + 3)), .int (xs (I + 4))] [] cv_law_157 sk_85 rfl dl_1291 rfl (Nat.le_of_ble_eq_true rfl) (by decide) (by decide) (c_Rod_readZ h hI _ _ rfl _ _ rfl _ _ rfl _ _ rfl _ _ rfl rfl _ _ rfl rfl _ _ rfl rfl _ _ rfl rfl _ _ rfl rfl _ _ rfl rfl _ _ rfl rfl _ _ rfl rfl _ _ rfl rfl _ _ rfl rfl _ _ rfl rfl _ _ rfl rfl) (fun _ h1 hq => ?_)
  obtain ⟨r1, rfl, h1I, h1f⟩ := hq
  refine Z_pop dl_1294 rfl ?_
  refine Z_aload_n 2 dl_1295 rfl rfl ?_
  refine Z_arg 1 (by decide) hi hL hL2 dl_1296 dl_1297 dl_1298 dl_1299 dl_1300 ?_
  refine Z_arg 2 (by decide) hi hL hL2 dl_1301 dl_1302 dl_1303 dl_1304 dl_1305 ?_
  refine Z_arg 3 (by decide) hi hL hL2 dl_1306 dl_1307 dl_1308 dl_1309 dl_1310 ?_
  refine Z_arg 4 (by decide) hi hL hL2 dl_1311 dl_1312 dl_1313 dl_1314 dl_1315 ?_
  refine Z_call [.int (xs (I + 1)), .int (xs (I + 2)), .int (xs (I + 3)), .int (xs (I + 4))] [] cv_law_160 sk_116 rfl dl_1316 rfl (Nat.le_of_ble_eq_true rfl) (by decide) (by decide) (c_Mod_readZ h1 h1I _ _ rfl _ _ rfl _ _ rfl _ _ rfl _ _ rfl rfl _ _ rfl rfl _ _ rfl rfl _ _ rfl rfl) (fun _ h2 hq => ?_)
  obtain ⟨r2, rfl, h2I, h2f⟩ := hq
  refine Z_pop dl_1319 rfl ?_
  refine Z_goto 1359 dl_1320 (by decide) ?_
  have wg := wg16 hI
  have w0 : h1.1 116 2 = h.1 1 0 := (h1f.1.1 116 2 rfl).trans (JA_wh hJ.2.2.1 (i := 0) (by decide)).symm
  have w1 : h1.1 116 3 = h.1 1 1 := (h1f.1.1 116 3 rfl).trans (JA_wh hJ.2.2.1 (i := 1) (by decide)).symm
  have E2 := h2f.2
  rw [w0, w1] at E2
  have hB := JB_read hI hJ.2.2.1 hJ.2.2.2.1 hJ.2.2.2.2.1 h1f.1 h2f.1 rfl rfl rfl wg.2 (fun q => by (first | decide +kernel | omega)) h1f.2 E2
  exact K h2 ⟨h2I, (JT_fr h2f.1 rfl (JT_fr h1f.1 rfl hJ.2.1)), (JA_nA h2f.1 rfl (nA_RD E2) (JA_cA h1f.1 rfl (cA_RD h1f.2) hJ.2.2.1)), hB.1, (JS_fr h2f.1 rfl (JS_fr h1f.1 rfl hJ.2.2.2.2.1)), (JR_fr h2f.1 rfl (JR_read hJ.2.2.2.2.2 h1f.1 rfl rfl wg.2 h1f.2))⟩
theorem law_35 {b0 Ls : Nat} {xs : Nat → Int32} {h : Hp} {i : Int32} {I : Nat} (hL2 : Ls ≤ 320) (hi : i.toInt = I) (hL : I + 5 ≤ Ls) (hJ : J h) (K : ∀ h' : Hp, J h' → ZW b0 Ls xs h' 1359 (LZ i) []) : ZW b0 Ls xs h 1323 (LZ i) [] := by
  have hI : Inv h := hJ.1
  refine Z_aload_n 1 dl_1323 rfl rfl ?_
  refine Z_call [] [] cv_law_161 sk_85 rfl dl_1324 rfl (Nat.le_of_ble_eq_true rfl) (by decide) (by decide) (c_Rod_torn h hI) (fun _ h1 hq => ?_)
  obtain ⟨r1, rfl, r1e⟩ := hq
  subst r1e
  refine Z_pop dl_1327 rfl ?_
  refine Z_aload_n 2 dl_1328 rfl rfl ?_
  refine Z_call [] [] cv_law_164 sk_116 rfl dl_1329 rfl (Nat.le_of_ble_eq_true rfl) (by decide) (by decide) (c_Mod_torn h hI) (fun _ h2 hq => ?_)
  obtain ⟨r2, rfl, r2e⟩ := hq
  subst r2e
  refine Z_pop dl_1332 rfl ?_
  refine Z_goto 1359 dl_1333 (by decide) ?_
  exact K h ⟨hI, hJ.2.1, hJ.2.2.1, hJ.2.2.2.1, hJ.2.2.2.2.1, hJ.2.2.2.2.2⟩
theorem law_36 {b0 Ls : Nat} {xs : Nat → Int32} {h : Hp} {i : Int32} {I : Nat} (hL2 : Ls ≤ 320) (hi : i.toInt = I) (hL : I + 5 ≤ Ls) (hJ : J h) (K : ∀ h' : Hp, J h' → ZW b0 Ls xs h' 1359 (LZ i) []) : ZW b0 Ls xs h 1336 (LZ i) [] := by
  have hI : Inv h := hJ.1
  refine Z_aload_n 1 dl_1336 rfl rfl ?_
  refine Z_arg 1 (by decide) hi hL hL2 dl_1337 dl_1338 dl_1339 dl_1340 dl_1341 ?_
  refine Z_call [.int (xs (I + 1))] [] cv_law_165 sk_85 rfl dl_1342 rfl (Nat.le_of_ble_eq_true rfl) (by decide) (by decide) (c_Rod_countX h hI _ _ rfl _ _ rfl rfl _ _ rfl rfl) (fun _ h1 hq => ?_)
  obtain ⟨r1, rfl, r1e⟩ := hq
  obtain ⟨rfl, r1E⟩ := r1e
  refine Z_pop dl_1345 rfl ?_
  refine Z_aload_n 2 dl_1346 rfl rfl ?_
  refine Z_arg 1 (by decide) hi hL hL2 dl_1347 dl_1348 dl_1349 dl_1350 dl_1351 ?_
  refine Z_call [.int (xs (I + 1))] [] cv_law_168 sk_116 rfl dl_1352 rfl (Nat.le_of_ble_eq_true rfl) (by decide) (by decide) (c_Mod_countX h hI _ _ rfl _ _ rfl rfl _ _ rfl rfl) (fun _ h2 hq => ?_)
  obtain ⟨r2, rfl, r2e⟩ := hq
  obtain ⟨rfl, r2E⟩ := r2e
  refine Z_pop dl_1355 rfl ?_
  refine Z_goto 1359 dl_1356 (by decide) ?_
  exact K h ⟨hI, hJ.2.1, hJ.2.2.1, hJ.2.2.2.1, hJ.2.2.2.2.1, hJ.2.2.2.2.2⟩
end
section
theorem law_loop {b0 Ls : Nat} {xs : Nat → Int32} (hL2 : Ls ≤ 320) : ∀ (d I : Nat) (i : Int32) (h : Hp), Ls + 5 - I ≤ d → i.toInt = I → I ≤ Ls → J h → ZW b0 Ls xs h 18 (LZ i) [] := by
  intro d
  induction d with
  | zero => intro I i h hd hi hIL; omega
  | succ d ih =>
    intro I i h hd hi hIL hJ
    have hLs : (Int32.ofNat Ls).toInt = Ls := by rw [Int32.toInt_ofNat_of_lt (by (first | decide +kernel | omega))]
    refine Z_iload_n 3 dl_18 rfl rfl ?_
    refine Z_aload_n 0 dl_19 rfl rfl ?_
    refine Z_slen rfl dl_20 ?_
    refine Z_iconst 5 dl_21 (by decide) ?_
    refine Z_isub hLs (show (5 : Int32).toInt = 5 by decide) (by (first | decide +kernel | omega)) dl_22 (fun z _ hz => ?_)
    refine Z_icmp_gt 1365 hi hz dl_23 (by decide) (fun _ => ?_) (fun hle => ?_)
    · refine Z_iconst 1 dl_1365 (by decide) ?_
      exact Z_ret dl_1366
    · have hL : I + 5 ≤ Ls := by (first | decide +kernel | omega)
      have K : ∀ h' : Hp, J h' → ZW b0 Ls xs h' 1359 (LZ i) [] := fun h' hJ' => by
        refine Z_iinc (v := i + 5) 3 (LZ (i + 5)) dl_1359 rfl rfl (by decide) rfl rfl ?_
        refine Z_goto 18 dl_1362 (by decide) ?_
        refine ih (I + 5) (i + 5) h' (by (first | decide +kernel | omega)) ?_ (by (first | decide +kernel | omega)) hJ'
        rw [ti_add hi (show (5 : Int32).toInt = 5 by decide) (by (first | decide +kernel | omega))]
        omega
      refine Z_aload_n 0 dl_26 rfl rfl ?_
      refine Z_iload_n 3 dl_27 rfl rfl ?_
      refine Z_sld hi (by (first | decide +kernel | omega)) dl_28 ?_
      refine Z_bipush 63 dl_29 (by decide) ?_
      refine Z_iand dl_31 (fun z _ => ?_)
      by_cases hr : z.toInt < 0 ∨ 36 < z.toInt
      · exact Z_tabOut 1359 rfl dl_32 hr (by decide) (K h hJ)
      · have hc : z.toInt = 0 ∨ z.toInt = 1 ∨ z.toInt = 2 ∨ z.toInt = 3 ∨ z.toInt = 4 ∨ z.toInt = 5 ∨ z.toInt = 6 ∨ z.toInt = 7 ∨ z.toInt = 8 ∨ z.toInt = 9 ∨ z.toInt = 10 ∨ z.toInt = 11 ∨ z.toInt = 12 ∨ z.toInt = 13 ∨ z.toInt = 14 ∨ z.toInt = 15 ∨ z.toInt = 16 ∨ z.toInt = 17 ∨ z.toInt = 18 ∨ z.toInt = 19 ∨ z.toInt = 20 ∨ z.toInt = 21 ∨ z.toInt = 22 ∨ z.toInt = 23 ∨ z.toInt = 24 ∨ z.toInt = 25 ∨ z.toInt = 26 ∨ z.toInt = 27 ∨ z.toInt = 28 ∨ z.toInt = 29 ∨ z.toInt = 30 ∨ z.toInt = 31 ∨ z.toInt = 32 ∨ z.toInt = 33 ∨ z.toInt = 34 ∨ z.toInt = 35 ∨ z.toInt = 36 := by (first | decide +kernel | omega)
        rcases hc with hc | hc | hc | hc | hc | hc | hc | hc | hc | hc | hc | hc | hc | hc | hc | hc | hc | hc | hc | hc | hc | hc | hc | hc | hc | hc | hc | hc | hc | hc | hc | hc | hc | hc | hc | hc | hc
        · exact Z_tabIn 196 hc dl_32 (by decide) (by decide) rfl (by decide) (law_0 hL2 hi hL hJ K)
        · exact Z_tabIn 219 hc dl_32 (by decide) (by decide) rfl (by decide) (law_1 hL2 hi hL hJ K)
        · exact Z_tabIn 242 hc dl_32 (by decide) (by decide) rfl (by decide) (law_2 hL2 hi hL hJ K)
        · exact Z_tabIn 255 hc dl_32 (by decide) (by decide) rfl (by decide) (law_3 hL2 hi hL hJ K)
        · exact Z_tabIn 268 hc dl_32 (by decide) (by decide) rfl (by decide) (law_4 hL2 hi hL hJ K)
        · exact Z_tabIn 291 hc dl_32 (by decide) (by decide) rfl (by decide) (law_5 hL2 hi hL hJ K)
        · exact Z_tabIn 324 hc dl_32 (by decide) (by decide) rfl (by decide) (law_6 hL2 hi hL hJ K)
        · exact Z_tabIn 347 hc dl_32 (by decide) (by decide) rfl (by decide) (law_7 hL2 hi hL hJ K)
        · exact Z_tabIn 380 hc dl_32 (by decide) (by decide) rfl (by decide) (law_8 hL2 hi hL hJ K)
        · exact Z_tabIn 429 hc dl_32 (by decide) (by decide) rfl (by decide) (law_9 hL2 hi hL hJ K)
        · exact Z_tabIn 462 hc dl_32 (by decide) (by decide) rfl (by decide) (law_10 hL2 hi hL hJ K)
        · exact Z_tabIn 495 hc dl_32 (by decide) (by decide) rfl (by decide) (law_11 hL2 hi hL hJ K)
        · exact Z_tabIn 528 hc dl_32 (by decide) (by decide) rfl (by decide) (law_12 hL2 hi hL hJ K)
        · exact Z_tabIn 561 hc dl_32 (by decide) (by decide) rfl (by decide) (law_13 hL2 hi hL hJ K)
        · exact Z_tabIn 604 hc dl_32 (by decide) (by decide) rfl (by decide) (law_14 hL2 hi hL hJ K)
        · exact Z_tabIn 627 hc dl_32 (by decide) (by decide) rfl (by decide) (law_15 hL2 hi hL hJ K)
        · exact Z_tabIn 650 hc dl_32 (by decide) (by decide) rfl (by decide) (law_16 hL2 hi hL hJ K)
        · exact Z_tabIn 693 hc dl_32 (by decide) (by decide) rfl (by decide) (law_17 hL2 hi hL hJ K)
        · exact Z_tabIn 762 hc dl_32 (by decide) (by decide) rfl (by decide) (law_18 hL2 hi hL hJ K)
        · exact Z_tabIn 785 hc dl_32 (by decide) (by decide) rfl (by decide) (law_19 hL2 hi hL hJ K)
        · exact Z_tabIn 798 hc dl_32 (by decide) (by decide) rfl (by decide) (law_20 hL2 hi hL hJ K)
        · exact Z_tabIn 821 hc dl_32 (by decide) (by decide) rfl (by decide) (law_21 hL2 hi hL hJ K)
        · exact Z_tabIn 854 hc dl_32 (by decide) (by decide) rfl (by decide) (law_22 hL2 hi hL hJ K)
        · exact Z_tabIn 907 hc dl_32 (by decide) (by decide) rfl (by decide) (law_23 hL2 hi hL hJ K)
        · exact Z_tabIn 950 hc dl_32 (by decide) (by decide) rfl (by decide) (law_24 hL2 hi hL hJ K)
        · exact Z_tabIn 1003 hc dl_32 (by decide) (by decide) rfl (by decide) (law_25 hL2 hi hL hJ K)
        · exact Z_tabIn 1026 hc dl_32 (by decide) (by decide) rfl (by decide) (law_26 hL2 hi hL hJ K)
        · exact Z_tabIn 1059 hc dl_32 (by decide) (by decide) rfl (by decide) (law_27 hL2 hi hL hJ K)
        · exact Z_tabIn 1082 hc dl_32 (by decide) (by decide) rfl (by decide) (law_28 hL2 hi hL hJ K)
        · exact Z_tabIn 1105 hc dl_32 (by decide) (by decide) rfl (by decide) (law_29 hL2 hi hL hJ K)
        · exact Z_tabIn 1138 hc dl_32 (by decide) (by decide) rfl (by decide) (law_30 hL2 hi hL hJ K)
        · exact Z_tabIn 1161 hc dl_32 (by decide) (by decide) rfl (by decide) (law_31 hL2 hi hL hJ K)
        · exact Z_tabIn 1184 hc dl_32 (by decide) (by decide) rfl (by decide) (law_32 hL2 hi hL hJ K)
        · exact Z_tabIn 1227 hc dl_32 (by decide) (by decide) rfl (by decide) (law_33 hL2 hi hL hJ K)
        · exact Z_tabIn 1270 hc dl_32 (by decide) (by decide) rfl (by decide) (law_34 hL2 hi hL hJ K)
        · exact Z_tabIn 1323 hc dl_32 (by decide) (by decide) rfl (by decide) (law_35 hL2 hi hL hJ K)
        · exact Z_tabIn 1336 hc dl_32 (by decide) (by decide) rfl (by decide) (law_36 hL2 hi hL hJ K)
end
section
theorem tb_ca0 : Cond.arrayClass .int ∈ lw_tbl := List.mem_append_right _ (List.mem_append_left _ (List.mem_of_getElem? (i := 99) (by decide +kernel)))
theorem tb_ca1 : Cond.arrayClass .byte ∈ lw_tbl := List.mem_append_right _ (List.mem_append_left _ (List.mem_of_getElem? (i := 236) (by decide +kernel)))
theorem tb_ca2 : Cond.arrayClass .boolean ∈ lw_tbl := List.mem_append_right _ (List.mem_append_left _ (List.mem_of_getElem? (i := 235) (by decide +kernel)))
theorem tb_ca3 : Cond.arrayOver (.object "RodOwes$County") ∈ lw_tbl := List.mem_append_right _ (List.mem_append_left _ (List.mem_of_getElem? (i := 197) (by decide +kernel)))
theorem tb_ca4 : Cond.arrayOver (.object "RodOwes$Sheet") ∈ lw_tbl := List.mem_append_right _ (List.mem_append_right _ (List.mem_append_left _ (List.mem_of_getElem? (i := 94) (by decide +kernel))))
theorem tb_ca5 : Cond.arrayOver (.array .int) ∈ lw_tbl := List.mem_append_right _ (List.mem_append_right _ (List.mem_append_left _ (List.mem_of_getElem? (i := 31) (by decide +kernel))))
theorem memL_by {α : Type} {L : List α} {f : α → Cond} {ix : List Nat} (h : ix.map (fun i => tables_1[i]?) = (L.map f).map some) : ∀ q ∈ L, f q ∈ lw_tbl := fun q hq => by
  have e : some (f q) ∈ (L.map f).map some := List.mem_map.mpr ⟨f q, List.mem_map.mpr ⟨q, hq, rfl⟩, rfl⟩
  rw [← h] at e
  obtain ⟨i, _, e⟩ := List.mem_map.mp e
  exact List.mem_append_right _ (List.mem_of_getElem? e)
theorem memI_by {f : Nat → Cond} {n : Nat} {ix : List Nat} (h : ∀ i, i < n → tables_1[ix.getD i 0]? = some (f i)) : ∀ i, i < n → f i ∈ lw_tbl := fun i hi => List.mem_append_right _ (List.mem_of_getElem? (h i hi))
theorem tb_nest : ∀ q ∈ kNest, Cond.methodLinkNest q.1 q.2.1 q.2.2 R_Rod ∈ lw_tbl := memL_by (f := fun (q : String × Nat × MethodName) => Cond.methodLinkNest q.1 q.2.1 q.2.2 R_Rod) (ix := [200, 266, 282, 300, 336, 37, 102, 129, 206]) (by decide +kernel)
theorem tb_nest2 : ∀ q ∈ vv_nest, Cond.methodLinkNest q.1 q.2.1 q.2.2 R_Rod ∈ lw_tbl := memL_by (f := fun (q : String × Nat × MethodName) => Cond.methodLinkNest q.1 q.2.1 q.2.2 R_Rod) (ix := [778, 771, 773, 713, 716]) (by decide +kernel)
theorem tb_cls0 : ∀ q ∈ classes, Cond.instantiable q.1 q.2.2 ∈ vv_G := by decide +kernel
theorem tb_cls : ∀ q ∈ classes, ∀ w ∈ u_ws q.1 q.2.1 q.2.2, w ∈ vv_G := by
  intro q hq
  simp only [classes, List.mem_cons, List.not_mem_nil, or_false] at hq
  rcases hq with rfl | rfl | rfl | rfl | rfl | rfl | rfl | rfl | rfl | rfl | rfl | rfl
  · exact i_Beds
  · exact i_County
  · exact i_Land
  · exact i_Ledger
  · exact i_Plans
  · exact i_Reader
  · exact i_Sheet
  · exact i_Sights
  · exact i_Tape
  · exact i_Walks
  · exact i_Rod
  · exact i_Mod
theorem st_D {args : Array Value} {s : State} (hts : ∀ w ∈ vv_G, w.before args s = true) : ∃ D : va_G, ∀ (c : Nat) (q : vw_C), classes[c]? = some q → u_Kn s q.1 q.2.1 q.2.2 (D.1 c) (D.2 c) := by
  have h : ∀ c : Nat, ∃ z : ClassId × (Nat → Nat), ∀ q : vw_C, classes[c]? = some q → u_Kn s q.1 q.2.1 q.2.2 z.1 z.2 := by
    intro c
    cases hq : classes[c]? with
    | none => exact ⟨(0, fun _ => 0), fun q h => by cases h⟩
    | some q =>
      have hm := List.mem_of_getElem? hq
      obtain ⟨cC, iS, hk⟩ := u_known hts (tb_cls q hm) (hts _ (tb_cls0 q hm))
      exact ⟨(cC, iS), fun q' h => by cases h; exact hk⟩
  obtain ⟨f, hf⟩ := Classical.axiomOfChoice h
  exact ⟨(fun c => (f c).1, fun c => (f c).2), hf⟩
theorem st_ca {args : Array Value} {s : State} (hts : ∀ w ∈ lw_tbl, w.before args s = true) : ∃ ca : Nat → ClassId, ∀ (k : Nat) (q : ClassId × FieldType), (tysC ca)[k]? = some q → ArrOfT s q.1 q.2 ∧ va_RA s q.1 q.2 := by
  obtain ⟨c0, k0, m0, a0, b0, e0⟩ := Cond.arrayClass_spec (hts _ tb_ca0)
  obtain ⟨c1, k1, m1, a1, b1, e1⟩ := Cond.arrayClass_spec (hts _ tb_ca1)
  obtain ⟨c2, k2, m2, a2, b2, e2⟩ := Cond.arrayClass_spec (hts _ tb_ca2)
  obtain ⟨m3, c3, k3, g3, -, b3, e3, a3⟩ := Cond.arrayOver_spec (hts _ tb_ca3)
  obtain ⟨m4, c4, k4, g4, -, b4, e4, a4⟩ := Cond.arrayOver_spec (hts _ tb_ca4)
  obtain ⟨m5, c5, k5, -, b5, e5, a5⟩ := Cond.arrayOver_specA (hts _ tb_ca5)
  refine ⟨fun k => [c0, c1, c2, c3, c4, c5].getD k 0, fun k q hk => ?_⟩
  have hl : k < 6 := (List.getElem?_eq_some_iff.mp hk).1
  rcases (by (first | decide +kernel | omega) : k = 0 ∨ k = 1 ∨ k = 2 ∨ k = 3 ∨ k = 4 ∨ k = 5) with rfl | rfl | rfl | rfl | rfl | rfl
  · cases hk; exact ⟨fun N z => ⟨(fun k h => by cases h), k0, b0, m0, e0⟩, a0⟩
  · cases hk; exact ⟨fun N z => ⟨(fun k h => by cases h), k1, b1, m1, e1⟩, a1⟩
  · cases hk; exact ⟨fun N z => ⟨(fun k h => by cases h), k2, b2, m2, e2⟩, a2⟩
  · cases hk; exact ⟨fun N z => ⟨(fun k h => by cases h), k3, b3, m3, e3⟩, k3, m3, b3, e3, g3, a3⟩
  · cases hk; exact ⟨fun N z => ⟨(fun k h => by cases h), k4, b4, m4, e4⟩, k4, m4, b4, e4, g4, a4⟩
  · cases hk; exact ⟨fun N z => ⟨(fun k h => by cases h), k5, b5, m5, e5⟩, a5⟩
theorem st_Kw {args : Array Value} {s : State} (hts : ∀ w ∈ lw_tbl, w.before args s = true) : Kw s :=
  ⟨fun q hq => va_Nw.of rfl (hts _ (tb_nest q hq)), va_AO.of (hts _ tb_ca3), va_AO.of (hts _ tb_ca4), va_AOA.of (hts _ tb_ca5)⟩
def fl1 : List Cond := flatC (Jvm.Cond.and given_1 narrow_1)
def tmS (nm : String) : Term := .static R_Reader nm "[I"
def tmT (i : Nat) : Term := .string R_Reader (vv_txI.getD i 0)
theorem sf_z : Cond.eq (.static "java/lang/String" "COMPACT_STRINGS" "Z") (.int 1) ∈ fl1 := by decide +kernel
theorem sf_f : Cond.isRef (.static "jdk/internal/util/Preconditions" "SIOOBE_FORMATTER" "Ljava/util/function/BiFunction;") ∈ fl1 := by decide +kernel
theorem sl_z : Cond.laysStatic "java/lang/String" "COMPACT_STRINGS" "Z" ∈ lw_tbl := List.mem_append_right _ (List.mem_append_right _ (List.mem_append_left _ (List.mem_of_getElem? (i := 229) (by decide +kernel))))
theorem sl_f : Cond.laysStatic "jdk/internal/util/Preconditions" "SIOOBE_FORMATTER" "Ljava/util/function/BiFunction;" ∈ lw_tbl := List.mem_append_right _ (List.mem_append_right _ (List.mem_append_right _ (List.mem_append_left _ (List.mem_of_getElem? (i := 5) (by decide +kernel)))))
theorem si_z : Cond.initialized "java/lang/String" ∈ lw_tbl := List.mem_append_right _ (List.mem_append_left _ (List.mem_of_getElem? (i := 14) (by decide +kernel)))
theorem si_f : Cond.initialized "jdk/internal/util/Preconditions" ∈ lw_tbl := List.mem_append_right _ (List.mem_append_left _ (List.mem_of_getElem? (i := 16) (by decide +kernel)))
theorem si_R : Cond.initialized R_Reader ∈ lw_tbl := List.mem_append_right _ (List.mem_append_left _ (List.mem_of_getElem? (i := 7) (by decide +kernel)))
def rows3 : List (String × List Int32) := [("NUMBERS", vv_numL), ("LEAST", vv_leastL), ("MOST", vv_mostL)]
/-- the way down a conjunction, by the bits of a number -/
def atN : Nat → Nat → Cond → Cond
  | k + 1, n, .and a b => if n % 2 = 0 then atN k (n / 2) a else atN k (n / 2) b
  | _, _, c => c
theorem atN_sub : ∀ (k n : Nat) (T c : Cond), c ∈ flatC (atN k n T) → c ∈ flatC T := by
  intro k
  induction k with
  | zero => intro n T c h; cases T <;> exact h
  | succ k ih =>
    intro n T c h
    cases T with
    | and a b =>
      show c ∈ flatC a ++ flatC b
      have h2 : c ∈ flatC (if n % 2 = 0 then atN k (n / 2) a else atN k (n / 2) b) := h
      split at h2
      · exact List.mem_append_left _ (ih _ _ _ h2)
      · exact List.mem_append_right _ (ih _ _ _ h2)
    | _ => exact h
theorem atN_mem {k n : Nat} {T c : Cond} (h : atN k n T = c) (hc : flatC c = [c]) : c ∈ flatC T := atN_sub k n T c (by rw [h, hc]; exact List.mem_singleton.mpr rfl)
theorem s3_l : ∀ q ∈ rows3, Cond.laysStatic R_Reader q.1 "[I" ∈ lw_tbl := memL_by (f := fun (q : String × List Int32) => Cond.laysStatic R_Reader q.1 "[I") (ix := [527, 533, 535]) (by decide +kernel)
def pw_s3_a : List Nat := [449, 273, 937]
theorem s3_a0 : ∀ q ∈ rows3, atN 11 (pw_s3_a.getD (if q.1 = "NUMBERS" then 0 else if q.1 = "LEAST" then 1 else 2) 0) (Jvm.Cond.and given_1 narrow_1) = Cond.arrayOf (tmS q.1) .int := by decide +kernel
theorem s3_a : ∀ q ∈ rows3, Cond.arrayOf (tmS q.1) .int ∈ fl1 := fun q hq => atN_mem (s3_a0 q hq) rfl
def pw_s3_n : List Nat := [961, 145, 105]
theorem s3_n0 : ∀ q ∈ rows3, atN 11 (pw_s3_n.getD (if q.1 = "NUMBERS" then 0 else if q.1 = "LEAST" then 1 else 2) 0) (Jvm.Cond.and given_1 narrow_1) = Cond.eq (.length (tmS q.1)) (.int (Int32.ofNat q.2.length)) := by decide +kernel
theorem s3_n : ∀ q ∈ rows3, Cond.eq (.length (tmS q.1)) (.int (Int32.ofNat q.2.length)) ∈ fl1 := fun q hq => atN_mem (s3_n0 q hq) rfl
def pw_s3_e : List (List Nat) := [[33, 289, 161, 417, 929, 97, 353, 225, 481, 993], [401, 913, 81, 337, 209, 465, 977, 49, 305, 177, 433, 945, 113, 369, 241, 497, 1009, 9, 265, 137, 393, 905, 73, 329, 201, 457, 969, 41, 297, 169], [361, 233, 489, 1001, 25, 281, 153, 409, 921, 89, 345, 217, 473, 985, 57, 313, 185, 441, 953, 121, 377, 249, 505, 1017, 5, 261, 133, 389, 901, 69]]
theorem s3_e0 : ∀ q ∈ rows3, ∀ j, j < q.2.length → atN 11 ((pw_s3_e.getD (if q.1 = "NUMBERS" then 0 else if q.1 = "LEAST" then 1 else 2) []).getD j 0) (Jvm.Cond.and given_1 narrow_1) = Cond.eq (.elem (tmS q.1) (.int (Int32.ofNat j))) (.int (q.2.getD j 0)) := by decide +kernel
theorem s3_e : ∀ q ∈ rows3, ∀ j, j < q.2.length → Cond.eq (.elem (tmS q.1) (.int (Int32.ofNat j))) (.int (q.2.getD j 0)) ∈ fl1 := fun q hq j hj => atN_mem (s3_e0 q hq j hj) rfl
theorem s3_s : ∀ q ∈ rows3, q.2.length < 2 ^ 31 := by decide +kernel
theorem tx_n : ∀ i, i < 14 → vv_txL.getD i 0 < 2 ^ 31 := by decide +kernel
def pw_tx_x : List Nat := [53, 13, 461, 493, 989, 259, 99, 979, 75, 27, 379, 103, 119, 239]
theorem tx_x0 : ∀ i, i < 14 → atN 11 (pw_tx_x.getD i 0) (Jvm.Cond.and given_1 narrow_1) = Cond.exactly (tmT i) "java/lang/String" := by decide +kernel
theorem tx_x : ∀ i, i < 14 → Cond.exactly (tmT i) "java/lang/String" ∈ fl1 := fun i hi => atN_mem (tx_x0 i hi) rfl
def pw_tx_c : List Nat := [309, 269, 973, 1005, 61, 131, 355, 51, 331, 283, 251, 359, 375, 495]
theorem tx_c0 : ∀ i, i < 14 → atN 11 (pw_tx_c.getD i 0) (Jvm.Cond.and given_1 narrow_1) = Cond.eq (.field (tmT i) "java/lang/String" "coder" "B") (.int 0) := by decide +kernel
theorem tx_c : ∀ i, i < 14 → Cond.eq (.field (tmT i) "java/lang/String" "coder" "B") (.int 0) ∈ fl1 := fun i hi => atN_mem (tx_c0 i hi) rfl
def pw_tx_a : List Nat := [181, 141, 45, 29, 317, 387, 227, 307, 203, 155, 507, 231, 247, 1007]
theorem tx_a0 : ∀ i, i < 14 → atN 11 (pw_tx_a.getD i 0) (Jvm.Cond.and given_1 narrow_1) = Cond.arrayOf (.field (tmT i) "java/lang/String" "value" "[B") .byte := by decide +kernel
theorem tx_a : ∀ i, i < 14 → Cond.arrayOf (.field (tmT i) "java/lang/String" "value" "[B") .byte ∈ fl1 := fun i hi => atN_mem (tx_a0 i hi) rfl
def pw_tx_l : List Nat := [437, 397, 301, 285, 189, 899, 483, 179, 459, 411, 1019, 487, 503, 31]
theorem tx_l0 : ∀ i, i < 14 → atN 11 (pw_tx_l.getD i 0) (Jvm.Cond.and given_1 narrow_1) = Cond.eq (.length (.field (tmT i) "java/lang/String" "value" "[B")) (.int (Int32.ofNat (vv_txL.getD i 0))) := by decide +kernel
theorem tx_l : ∀ i, i < 14 → Cond.eq (.length (.field (tmT i) "java/lang/String" "value" "[B")) (.int (Int32.ofNat (vv_txL.getD i 0))) ∈ fl1 := fun i hi => atN_mem (tx_l0 i hi) rfl
def pw_tx_e : List (List Nat) := [[949, 117, 373, 245, 501, 1013], [909, 77, 333], [173, 429, 941, 109], [157, 413, 925, 93], [445, 957, 125, 381, 893], [67, 323, 195, 451, 963], [995, 19, 275, 147], [435, 947, 115, 371, 243], [971, 43, 299], [923, 91, 347], [7, 263, 135, 391, 903], [999, 23, 279, 151, 407], [1015, 15, 271, 143, 399, 911], [287, 159, 415, 927]]
theorem tx_e0 : ∀ i, i < 14 → ∀ j, j < vv_txL.getD i 0 → atN 11 ((pw_tx_e.getD i []).getD j 0) (Jvm.Cond.and given_1 narrow_1) = Cond.eq (.elem (.field (tmT i) "java/lang/String" "value" "[B") (.int (Int32.ofNat j))) (.int ((vv_txB.getD i []).getD j 0)) := by decide +kernel
theorem tx_e : ∀ i, i < 14 → ∀ j, j < vv_txL.getD i 0 → Cond.eq (.elem (.field (tmT i) "java/lang/String" "value" "[B") (.int (Int32.ofNat j))) (.int ((vv_txB.getD i []).getD j 0)) ∈ fl1 := fun i hi j hj => atN_mem (tx_e0 i hi j hj) rfl
def pw_tx_d : List (List Nat) := [[], [205], [365, 237], [349, 221, 477], [253, 509, 1021, 3], [35, 291, 163, 419, 931], [403, 915, 83, 339, 211, 467], [499, 1011, 11, 267, 139, 395, 907], [171, 427, 939, 107, 363, 235, 491, 1003], [219, 475, 987, 59, 315, 187, 443, 955, 123], [71, 327, 199, 455, 967, 39, 295, 167, 423, 935], [919, 87, 343, 215, 471, 983, 55, 311, 183, 439, 951], [79, 335, 207, 463, 975, 47, 303, 175, 431, 943, 111, 367], [95, 351, 223, 479, 991, 63, 319, 191, 447, 959, 127, 383, 895]]
theorem tx_d0 : ∀ j, j < 14 → ∀ i, i < j → atN 11 ((pw_tx_d.getD j []).getD i 0) (Jvm.Cond.and given_1 narrow_1) = Cond.not (Cond.eq (tmT i) (tmT j)) := by decide +kernel
theorem tx_d : ∀ j, j < 14 → ∀ i, i < j → Cond.not (Cond.eq (tmT i) (tmT j)) ∈ fl1 := fun j hj i hi => atN_mem (tx_d0 j hj i hi) rfl
theorem tx_r : ∀ i, i < 14 → Cond.stringRef R_Reader (vv_txI.getD i 0) (vv_txS.getD i "") ∈ lw_tbl := memI_by (f := fun i => Cond.stringRef R_Reader (vv_txI.getD i 0) (vv_txS.getD i "")) (ix := [446, 447, 448, 449, 450, 451, 452, 453, 454, 455, 522, 523, 524, 525]) (by decide +kernel)
theorem vk_S_congr {N : Nat} {len : List Nat} {byt : List (List Int32)} {adK adV bdK bdV : Nat → Nat} {A : Nat → Prop} {U : State} {H : Heap} (h : vk_S N len byt adK adV A U H) (h1 : ∀ i, i < N → bdK i = adK i) (h2 : ∀ i, i < N → bdV i = adV i) : vk_S N len byt bdK bdV A U H :=
  ⟨fun i hi => by rw [h1 i hi, h2 i hi]; exact h.1 i hi, fun i j hi hj e => h.2 i j hi hj (by rw [← h1 i hi, ← h1 j hj]; exact e)⟩
theorem st_row {args : Array Value} {s : State} (hts : ∀ w ∈ lw_tbl, w.before args s = true) (hfl : ∀ w ∈ fl1, w.before args s = true) {A : Nat → Prop} (hA : ∀ a : Nat, a < s.heap.size → ¬ A a) (q : String × List Int32) (hq : q ∈ rows3) : ∃ t : Nat, va_Z R_Reader q.1 "[I" (.ref t) A s s.heap ∧ va_T .int t q.2.length (fun j => .int (q.2.getD j 0)) A s s.heap := by
  obtain ⟨t, ht, hT⟩ := va_Tof (f := fun j => .int (q.2.getD j 0)) (A := A) (s3_s q hq) (hfl _ (s3_a q hq)) (va_eqt (hfl _ (s3_n q hq))) (fun j hj => va_eqt (hfl _ (s3_e q hq j hj))) hA
  exact ⟨t, va_Zref (hts _ (s3_l q hq)) (hts _ si_R) ht hA, hT⟩
theorem st_Ro {args : Array Value} {s : State} (hts : ∀ w ∈ lw_tbl, w.before args s = true) (hgv : (Jvm.Cond.and given_1 narrow_1).before args s = true) {A : Nat → Prop} (hA : ∀ a : Nat, a < s.heap.size → ¬ A a) : ∃ ro : Nat → Nat, ∀ X : Xc, (∀ k, 132 ≤ k → k < 164 → X.2.1 k = ro k) → Ro X A s s.heap := by
  have hfl : ∀ w ∈ fl1, w.before args s = true := flat_of_before _ hgv
  obtain ⟨t1, z1, T1⟩ := st_row hts hfl hA ("NUMBERS", vv_numL) (by simp [rows3])
  obtain ⟨t2, z2, T2⟩ := st_row hts hfl hA ("LEAST", vv_leastL) (by simp [rows3])
  obtain ⟨t3, z3, T3⟩ := st_row hts hfl hA ("MOST", vv_mostL) (by simp [rows3])
  have hz := va_Zof (hts _ sl_z) (hts _ si_z) (va_eqt (hfl _ sf_z)) hA
  obtain ⟨tf, hf⟩ : ∃ tf : Nat, va_Z "jdk/internal/util/Preconditions" "SIOOBE_FORMATTER" "Ljava/util/function/BiFunction;" .null A s s.heap ∨ va_Z "jdk/internal/util/Preconditions" "SIOOBE_FORMATTER" "Ljava/util/function/BiFunction;" (.ref tf) A s s.heap := by
    rcases va_Zqof (hts _ sl_f) (hts _ si_f) (hfl _ sf_f) hA with h | ⟨t, h⟩
    · exact ⟨0, Or.inl h⟩
    · exact ⟨t, Or.inr h⟩
  obtain ⟨adK, adV, hS, hev⟩ := vk_Sof (N := 14) (tm := tmT) (len := vv_txL) (byt := vv_txB) (A := A) tx_n (fun i hi => hfl _ (tx_x i hi)) (fun i hi => hfl _ (tx_c i hi)) (fun i hi => hfl _ (tx_a i hi)) (fun i hi => hfl _ (tx_l i hi)) (fun i hi j hj => hfl _ (tx_e i hi j hj)) (fun i j hi hj hne => by
    by_cases hlt : i < j
    · exact Or.inl (hfl _ (tx_d j hj i hlt))
    · exact Or.inr (hfl _ (tx_d i hi j (by (first | decide +kernel | omega))))) hA
  refine ⟨fun k => if k = 132 then t1 else if k = 133 then t2 else if k = 134 then t3 else if k < 149 then adK (k - 135) else if k < 163 then adV (k - 149) else tf, fun X hX => ?_⟩
  have x1 : X.2.1 132 = t1 := hX 132 (by decide) (by decide)
  have x2 : X.2.1 133 = t2 := hX 133 (by decide) (by decide)
  have x3 : X.2.1 134 = t3 := hX 134 (by decide) (by decide)
  have xf : X.2.1 163 = tf := hX 163 (by decide) (by decide)
  have xK : ∀ i, i < 14 → X.2.1 (135 + i) = adK i := fun i hi => by
    refine (hX (135 + i) (by (first | decide +kernel | omega)) (by (first | decide +kernel | omega))).trans ?_
    show (if 135 + i = 132 then t1 else if 135 + i = 133 then t2 else if 135 + i = 134 then t3 else if 135 + i < 149 then adK (135 + i - 135) else if 135 + i < 163 then adV (135 + i - 149) else tf) = adK i
    rw [if_neg (by (first | decide +kernel | omega)), if_neg (by (first | decide +kernel | omega)), if_neg (by (first | decide +kernel | omega)), if_pos (by (first | decide +kernel | omega)), Nat.add_sub_cancel_left]
  have xV : ∀ i, i < 14 → X.2.1 (149 + i) = adV i := fun i hi => by
    refine (hX (149 + i) (by (first | decide +kernel | omega)) (by (first | decide +kernel | omega))).trans ?_
    show (if 149 + i = 132 then t1 else if 149 + i = 133 then t2 else if 149 + i = 134 then t3 else if 149 + i < 149 then adK (149 + i - 135) else if 149 + i < 163 then adV (149 + i - 149) else tf) = adV i
    rw [if_neg (by (first | decide +kernel | omega)), if_neg (by (first | decide +kernel | omega)), if_neg (by (first | decide +kernel | omega)), if_neg (by (first | decide +kernel | omega)), if_pos (by (first | decide +kernel | omega)), Nat.add_sub_cancel_left]
  refine ⟨⟨by rw [x1]; exact z1, by rw [x1]; exact T1⟩, ⟨by rw [x2]; exact z2, by rw [x2]; exact T2⟩, ⟨by rw [x3]; exact z3, by rw [x3]; exact T3⟩, hz, by rw [vv_fm, xf]; exact hf, vk_S_congr hS xK xV, fun i hi => ?_, fun q hq => va_Nw.of rfl (hts _ (tb_nest2 q hq))⟩
  rw [xK i hi]
  exact vk_R.of (hts _ (tx_r i hi)) (hev i hi)
end
section
def h0l : List (Nat × (Nat → Int32)) := [(0, (fun i => ([0, 0, 0, 0, 9] : List Int32).getD i 0)), (1, (fun i => ([3, 3, 1, 10, 0, 0, 0, 0, 0] : List Int32).getD i 0)), (4, (fun _ => 5)), (5, (fun _ => (-4))), (17, (fun i => ([0, 0, 0, 0, 9] : List Int32).getD i 0)), (18, (fun i => ([3, 3, 1, 10, 0, 0, 0, 0, 0] : List Int32).getD i 0)), (21, (fun _ => 5)), (22, (fun _ => (-4))), (34, (fun i => ([0, 0, 0, 0, 9] : List Int32).getD i 0)), (35, (fun i => ([3, 3, 1, 10, 0, 0, 0, 0, 0] : List Int32).getD i 0)), (38, (fun _ => 5)), (39, (fun _ => (-4))), (51, (fun i => ([0, 0, 0, 0, 9] : List Int32).getD i 0)), (52, (fun i => ([3, 3, 1, 10, 0, 0, 0, 0, 0] : List Int32).getD i 0)), (55, (fun _ => 5)), (56, (fun _ => (-4))), (68, (fun i => ([0, 0, 0, 0, 9] : List Int32).getD i 0)), (69, (fun i => ([3, 3, 1, 10, 0, 0, 0, 0, 0] : List Int32).getD i 0)), (72, (fun _ => 5)), (73, (fun _ => (-4))), (108, (fun i => ([0, (-1), 0] : List Int32).getD i 0)), (110, (fun i => ([0, (-1), 0] : List Int32).getD i 0)), (112, (fun i => ([0, (-1), 0] : List Int32).getD i 0)), (114, (fun i => ([0, (-1), 0] : List Int32).getD i 0)), (116, (fun i => ([0, 0, 3, 3, 1, 10, 0, 3, 3, 1, 10, 0, 0, (-4), 0, 0, 0, 0, 0, 0, 0, 0, 0, 0, 0, 0, 0, 0, 0, 0, 0, 0, 0, 0, 0, 0, 0] : List Int32).getD i 0)), (117, (fun i => if i < 144 then dr0 i else 0)), (119, dr0), (128, (fun _ => -4))]
def h0 : Hp := (fun k => (h0l.lookup k).getD (fun _ => 0), 0)
def adOf (l : List Nat) (ro : Nat → Nat) (b : Nat) : Nat → Nat := fun k => if k < 132 then l.getD k 0 else if k = 200 then b else ro k
theorem rg_zero (k i : Nat) : ((rg k i).1 ≤ 0 ∧ 0 ≤ (rg k i).2) ∨ (k < 85 ∧ k % 17 = 1 ∧ i < 2) ∨ (k = 116 ∧ (i = 2 ∨ i = 3)) := by
  unfold rg
  split
  · unfold rgC
    split <;> first | (left; decide) | (right; left; omega)
  · unfold rgX
    split <;> first | (left; decide) | (right; right; omega) | (left; unfold rgSt; split <;> first | decide | (split <;> first | decide | (split <;> decide)))
theorem lookup_in {α : Type} (k : Nat) (f : α) : ∀ l : List (Nat × α), l.lookup k = some f → (k, f) ∈ l := by
  intro l
  induction l with
  | nil => intro h; cases h
  | cons x l ih =>
    intro h
    obtain ⟨a, g⟩ := x
    by_cases hk : k = a
    · subst hk
      simp [List.lookup] at h
      rw [h]
      exact List.mem_cons_self
    · rw [List.lookup_cons] at h
      rw [show (k == a) = false from beq_eq_false_iff_ne.mpr hk] at h
      exact List.mem_cons_of_mem _ (ih h)
def okR (q : Nat × (Nat → Int32)) : Prop := ∀ i : Nat, (rg q.1 i).1 ≤ (q.2 i).toInt ∧ (q.2 i).toInt ≤ (rg q.1 i).2
theorem okR_st (i : Nat) : (rgSt i).1 ≤ (dr0 i).toInt ∧ (dr0 i).toInt ≤ (rgSt i).2 := by
  by_cases h : i = 85 ∨ (32 ≤ i ∧ i < 64)
  · have e : rgSt i = vv_full := by
      unfold rgSt
      rw [if_neg (by (first | decide +kernel | omega)), if_neg (by (first | decide +kernel | omega)), if_neg (by (first | decide +kernel | omega))]
    rw [e]
    exact ⟨ti_lo _, ti_hi _⟩
  · have e : dr0 i = 0 := by
      unfold dr0
      rw [if_neg (by (first | decide +kernel | omega)), if_neg (by (first | decide +kernel | omega)), if_neg (by (first | decide +kernel | omega))]
    rw [e]
    rcases rg_zero 117 i with h | h | h
    · exact h
    · omega
    · omega
theorem okR_0 : okR (0, (fun i => ([0, 0, 0, 0, 9] : List Int32).getD i 0)) := by
  intro i
  match i with
  | 0 => exact ⟨by decide, by decide⟩
  | 1 => exact ⟨by decide, by decide⟩
  | 2 => exact ⟨by decide, by decide⟩
  | 3 => exact ⟨by decide, by decide⟩
  | 4 => exact ⟨by decide, by decide⟩
  | j + 5 =>
    rcases rg_zero 0 (j + 5) with g | g | g
    · exact g
    · omega
    · omega
theorem okR_1 : okR (1, (fun i => ([3, 3, 1, 10, 0, 0, 0, 0, 0] : List Int32).getD i 0)) := by
  intro i
  match i with
  | 0 => exact ⟨by decide, by decide⟩
  | 1 => exact ⟨by decide, by decide⟩
  | 2 => exact ⟨by decide, by decide⟩
  | 3 => exact ⟨by decide, by decide⟩
  | 4 => exact ⟨by decide, by decide⟩
  | 5 => exact ⟨by decide, by decide⟩
  | 6 => exact ⟨by decide, by decide⟩
  | 7 => exact ⟨by decide, by decide⟩
  | 8 => exact ⟨by decide, by decide⟩
  | j + 9 =>
    rcases rg_zero 1 (j + 9) with g | g | g
    · exact g
    · omega
    · omega
theorem okR_2 : okR (4, (fun _ => 5)) := by
  intro i
  exact ⟨ti_lo _, ti_hi _⟩
theorem okR_3 : okR (5, (fun _ => (-4))) := by
  intro i
  exact ⟨ti_lo _, ti_hi _⟩
theorem okR_4 : okR (17, (fun i => ([0, 0, 0, 0, 9] : List Int32).getD i 0)) := by
  intro i
  match i with
  | 0 => exact ⟨by decide, by decide⟩
  | 1 => exact ⟨by decide, by decide⟩
  | 2 => exact ⟨by decide, by decide⟩
  | 3 => exact ⟨by decide, by decide⟩
  | 4 => exact ⟨by decide, by decide⟩
  | j + 5 =>
    rcases rg_zero 17 (j + 5) with g | g | g
    · exact g
    · omega
    · omega
theorem okR_5 : okR (18, (fun i => ([3, 3, 1, 10, 0, 0, 0, 0, 0] : List Int32).getD i 0)) := by
  intro i
  match i with
  | 0 => exact ⟨by decide, by decide⟩
  | 1 => exact ⟨by decide, by decide⟩
  | 2 => exact ⟨by decide, by decide⟩
  | 3 => exact ⟨by decide, by decide⟩
  | 4 => exact ⟨by decide, by decide⟩
  | 5 => exact ⟨by decide, by decide⟩
  | 6 => exact ⟨by decide, by decide⟩
  | 7 => exact ⟨by decide, by decide⟩
  | 8 => exact ⟨by decide, by decide⟩
  | j + 9 =>
    rcases rg_zero 18 (j + 9) with g | g | g
    · exact g
    · omega
    · omega
theorem okR_6 : okR (21, (fun _ => 5)) := by
  intro i
  exact ⟨ti_lo _, ti_hi _⟩
theorem okR_7 : okR (22, (fun _ => (-4))) := by
  intro i
  exact ⟨ti_lo _, ti_hi _⟩
theorem okR_8 : okR (34, (fun i => ([0, 0, 0, 0, 9] : List Int32).getD i 0)) := by
  intro i
  match i with
  | 0 => exact ⟨by decide, by decide⟩
  | 1 => exact ⟨by decide, by decide⟩
  | 2 => exact ⟨by decide, by decide⟩
  | 3 => exact ⟨by decide, by decide⟩
  | 4 => exact ⟨by decide, by decide⟩
  | j + 5 =>
    rcases rg_zero 34 (j + 5) with g | g | g
    · exact g
    · omega
    · omega
theorem okR_9 : okR (35, (fun i => ([3, 3, 1, 10, 0, 0, 0, 0, 0] : List Int32).getD i 0)) := by
  intro i
  match i with
  | 0 => exact ⟨by decide, by decide⟩
  | 1 => exact ⟨by decide, by decide⟩
  | 2 => exact ⟨by decide, by decide⟩
  | 3 => exact ⟨by decide, by decide⟩
  | 4 => exact ⟨by decide, by decide⟩
  | 5 => exact ⟨by decide, by decide⟩
  | 6 => exact ⟨by decide, by decide⟩
  | 7 => exact ⟨by decide, by decide⟩
  | 8 => exact ⟨by decide, by decide⟩
  | j + 9 =>
    rcases rg_zero 35 (j + 9) with g | g | g
    · exact g
    · omega
    · omega
theorem okR_10 : okR (38, (fun _ => 5)) := by
  intro i
  exact ⟨ti_lo _, ti_hi _⟩
theorem okR_11 : okR (39, (fun _ => (-4))) := by
  intro i
  exact ⟨ti_lo _, ti_hi _⟩
theorem okR_12 : okR (51, (fun i => ([0, 0, 0, 0, 9] : List Int32).getD i 0)) := by
  intro i
  match i with
  | 0 => exact ⟨by decide, by decide⟩
  | 1 => exact ⟨by decide, by decide⟩
  | 2 => exact ⟨by decide, by decide⟩
  | 3 => exact ⟨by decide, by decide⟩
  | 4 => exact ⟨by decide, by decide⟩
  | j + 5 =>
    rcases rg_zero 51 (j + 5) with g | g | g
    · exact g
    · omega
    · omega
theorem okR_13 : okR (52, (fun i => ([3, 3, 1, 10, 0, 0, 0, 0, 0] : List Int32).getD i 0)) := by
  intro i
  match i with
  | 0 => exact ⟨by decide, by decide⟩
  | 1 => exact ⟨by decide, by decide⟩
  | 2 => exact ⟨by decide, by decide⟩
  | 3 => exact ⟨by decide, by decide⟩
  | 4 => exact ⟨by decide, by decide⟩
  | 5 => exact ⟨by decide, by decide⟩
  | 6 => exact ⟨by decide, by decide⟩
  | 7 => exact ⟨by decide, by decide⟩
  | 8 => exact ⟨by decide, by decide⟩
  | j + 9 =>
    rcases rg_zero 52 (j + 9) with g | g | g
    · exact g
    · omega
    · omega
theorem okR_14 : okR (55, (fun _ => 5)) := by
  intro i
  exact ⟨ti_lo _, ti_hi _⟩
theorem okR_15 : okR (56, (fun _ => (-4))) := by
  intro i
  exact ⟨ti_lo _, ti_hi _⟩
theorem okR_16 : okR (68, (fun i => ([0, 0, 0, 0, 9] : List Int32).getD i 0)) := by
  intro i
  match i with
  | 0 => exact ⟨by decide, by decide⟩
  | 1 => exact ⟨by decide, by decide⟩
  | 2 => exact ⟨by decide, by decide⟩
  | 3 => exact ⟨by decide, by decide⟩
  | 4 => exact ⟨by decide, by decide⟩
  | j + 5 =>
    rcases rg_zero 68 (j + 5) with g | g | g
    · exact g
    · omega
    · omega
theorem okR_17 : okR (69, (fun i => ([3, 3, 1, 10, 0, 0, 0, 0, 0] : List Int32).getD i 0)) := by
  intro i
  match i with
  | 0 => exact ⟨by decide, by decide⟩
  | 1 => exact ⟨by decide, by decide⟩
  | 2 => exact ⟨by decide, by decide⟩
  | 3 => exact ⟨by decide, by decide⟩
  | 4 => exact ⟨by decide, by decide⟩
  | 5 => exact ⟨by decide, by decide⟩
  | 6 => exact ⟨by decide, by decide⟩
  | 7 => exact ⟨by decide, by decide⟩
  | 8 => exact ⟨by decide, by decide⟩
  | j + 9 =>
    rcases rg_zero 69 (j + 9) with g | g | g
    · exact g
    · omega
    · omega
theorem okR_18 : okR (72, (fun _ => 5)) := by
  intro i
  exact ⟨ti_lo _, ti_hi _⟩
theorem okR_19 : okR (73, (fun _ => (-4))) := by
  intro i
  exact ⟨ti_lo _, ti_hi _⟩
theorem okR_20 : okR (108, (fun i => ([0, (-1), 0] : List Int32).getD i 0)) := by
  intro i
  match i with
  | 0 => exact ⟨by decide, by decide⟩
  | 1 => exact ⟨by decide, by decide⟩
  | 2 => exact ⟨by decide, by decide⟩
  | j + 3 =>
    rcases rg_zero 108 (j + 3) with g | g | g
    · exact g
    · omega
    · omega
theorem okR_21 : okR (110, (fun i => ([0, (-1), 0] : List Int32).getD i 0)) := by
  intro i
  match i with
  | 0 => exact ⟨by decide, by decide⟩
  | 1 => exact ⟨by decide, by decide⟩
  | 2 => exact ⟨by decide, by decide⟩
  | j + 3 =>
    rcases rg_zero 110 (j + 3) with g | g | g
    · exact g
    · omega
    · omega
theorem okR_22 : okR (112, (fun i => ([0, (-1), 0] : List Int32).getD i 0)) := by
  intro i
  match i with
  | 0 => exact ⟨by decide, by decide⟩
  | 1 => exact ⟨by decide, by decide⟩
  | 2 => exact ⟨by decide, by decide⟩
  | j + 3 =>
    rcases rg_zero 112 (j + 3) with g | g | g
    · exact g
    · omega
    · omega
theorem okR_23 : okR (114, (fun i => ([0, (-1), 0] : List Int32).getD i 0)) := by
  intro i
  match i with
  | 0 => exact ⟨by decide, by decide⟩
  | 1 => exact ⟨by decide, by decide⟩
  | 2 => exact ⟨by decide, by decide⟩
  | j + 3 =>
    rcases rg_zero 114 (j + 3) with g | g | g
    · exact g
    · omega
    · omega
theorem okR_24 : okR (116, (fun i => ([0, 0, 3, 3, 1, 10, 0, 3, 3, 1, 10, 0, 0, (-4), 0, 0, 0, 0, 0, 0, 0, 0, 0, 0, 0, 0, 0, 0, 0, 0, 0, 0, 0, 0, 0, 0, 0] : List Int32).getD i 0)) := by
  intro i
  match i with
  | 0 => exact ⟨by decide, by decide⟩
  | 1 => exact ⟨by decide, by decide⟩
  | 2 => exact ⟨by decide, by decide⟩
  | 3 => exact ⟨by decide, by decide⟩
  | 4 => exact ⟨by decide, by decide⟩
  | 5 => exact ⟨by decide, by decide⟩
  | 6 => exact ⟨by decide, by decide⟩
  | 7 => exact ⟨by decide, by decide⟩
  | 8 => exact ⟨by decide, by decide⟩
  | 9 => exact ⟨by decide, by decide⟩
  | 10 => exact ⟨by decide, by decide⟩
  | 11 => exact ⟨by decide, by decide⟩
  | 12 => exact ⟨by decide, by decide⟩
  | 13 => exact ⟨by decide, by decide⟩
  | 14 => exact ⟨by decide, by decide⟩
  | 15 => exact ⟨by decide, by decide⟩
  | 16 => exact ⟨by decide, by decide⟩
  | 17 => exact ⟨by decide, by decide⟩
  | 18 => exact ⟨by decide, by decide⟩
  | 19 => exact ⟨by decide, by decide⟩
  | 20 => exact ⟨by decide, by decide⟩
  | 21 => exact ⟨by decide, by decide⟩
  | 22 => exact ⟨by decide, by decide⟩
  | 23 => exact ⟨by decide, by decide⟩
  | 24 => exact ⟨by decide, by decide⟩
  | 25 => exact ⟨by decide, by decide⟩
  | 26 => exact ⟨by decide, by decide⟩
  | 27 => exact ⟨by decide, by decide⟩
  | 28 => exact ⟨by decide, by decide⟩
  | 29 => exact ⟨by decide, by decide⟩
  | 30 => exact ⟨by decide, by decide⟩
  | 31 => exact ⟨by decide, by decide⟩
  | 32 => exact ⟨by decide, by decide⟩
  | 33 => exact ⟨by decide, by decide⟩
  | 34 => exact ⟨by decide, by decide⟩
  | 35 => exact ⟨by decide, by decide⟩
  | 36 => exact ⟨by decide, by decide⟩
  | j + 37 =>
    rcases rg_zero 116 (j + 37) with g | g | g
    · exact g
    · omega
    · omega
theorem okR_25 : okR (117, (fun i => if i < 144 then dr0 i else 0)) := by
  intro i
  show (rgSt i).1 ≤ ((if i < 144 then dr0 i else 0 : Int32)).toInt ∧ _
  by_cases h : i < 144
  · rw [if_pos h]
    have := okR_st i
    exact ⟨this.1, by show ((if i < 144 then dr0 i else 0 : Int32)).toInt ≤ _; rw [if_pos h]; exact this.2⟩
  · rw [if_neg h]
    rcases rg_zero 117 i with g | g | g
    · exact ⟨g.1, by show ((if i < 144 then dr0 i else 0 : Int32)).toInt ≤ _; rw [if_neg h]; exact g.2⟩
    · omega
    · omega
theorem okR_26 : okR (119, dr0) := by
  intro i
  exact okR_st i
theorem okR_27 : okR (128, (fun _ => -4)) := by
  intro i
  exact ⟨ti_lo _, ti_hi _⟩
theorem okR_all : ∀ q ∈ h0l, okR q := List.forall_mem_cons.mpr ⟨okR_0, List.forall_mem_cons.mpr ⟨okR_1, List.forall_mem_cons.mpr ⟨okR_2, List.forall_mem_cons.mpr ⟨okR_3, List.forall_mem_cons.mpr ⟨okR_4, List.forall_mem_cons.mpr ⟨okR_5, List.forall_mem_cons.mpr ⟨okR_6, List.forall_mem_cons.mpr ⟨okR_7, List.forall_mem_cons.mpr ⟨okR_8, List.forall_mem_cons.mpr ⟨okR_9, List.forall_mem_cons.mpr ⟨okR_10, List.forall_mem_cons.mpr ⟨okR_11, List.forall_mem_cons.mpr ⟨okR_12, List.forall_mem_cons.mpr ⟨okR_13, List.forall_mem_cons.mpr ⟨okR_14, List.forall_mem_cons.mpr ⟨okR_15, List.forall_mem_cons.mpr ⟨okR_16, List.forall_mem_cons.mpr ⟨okR_17, List.forall_mem_cons.mpr ⟨okR_18, List.forall_mem_cons.mpr ⟨okR_19, List.forall_mem_cons.mpr ⟨okR_20, List.forall_mem_cons.mpr ⟨okR_21, List.forall_mem_cons.mpr ⟨okR_22, List.forall_mem_cons.mpr ⟨okR_23, List.forall_mem_cons.mpr ⟨okR_24, List.forall_mem_cons.mpr ⟨okR_25, List.forall_mem_cons.mpr ⟨okR_26, List.forall_mem_cons.mpr ⟨okR_27, fun _ h => absurd h List.not_mem_nil⟩⟩⟩⟩⟩⟩⟩⟩⟩⟩⟩⟩⟩⟩⟩⟩⟩⟩⟩⟩⟩⟩⟩⟩⟩⟩⟩⟩
theorem inv_h0 : Inv h0 := by
  intro k i
  cases hl : h0l.lookup k with
  | some f =>
    have e : h0.1 k i = f i := by show ((h0l.lookup k).getD (fun _ => 0)) i = _; rw [hl]; rfl
    rw [e]
    exact okR_all _ (lookup_in k f h0l hl) i
  | none =>
    have e : h0.1 k i = 0 := by show ((h0l.lookup k).getD (fun _ => 0)) i = _; rw [hl]; rfl
    rw [e]
    rcases rg_zero k i with h | h | h
    · exact h
    · exfalso
      rcases (by (first | decide +kernel | omega) : k = 1 ∨ k = 18 ∨ k = 35 ∨ k = 52 ∨ k = 69) with rfl | rfl | rfl | rfl | rfl
      · have := show (h0l.lookup 1).isSome = true from rfl
        rw [hl] at this
        cases this
      · have := show (h0l.lookup 18).isSome = true from rfl
        rw [hl] at this
        cases this
      · have := show (h0l.lookup 35).isSome = true from rfl
        rw [hl] at this
        cases this
      · have := show (h0l.lookup 52).isSome = true from rfl
        rw [hl] at this
        cases this
      · have := show (h0l.lookup 69).isSome = true from rfl
        rw [hl] at this
        cases this
    · exfalso
      have hk := h.1
      subst hk
      have := show (h0l.lookup 116).isSome = true from rfl
      rw [hl] at this
      cases this
theorem fx2 (ad : Nat → Nat) (k0 k1 : Nat) : va_up (va_up (fun _ => none) 0 (some (ad k0))) 1 (some (ad k1)) = fun j => (([k0, k1] : List Nat)[j]?).map ad := by
  funext j
  match j with
  | 0 => rfl
  | 1 => rfl
  | j + 2 =>
    show (if j + 2 = 1 then _ else if j + 2 = 0 then _ else none) = _
    rw [if_neg (by (first | decide +kernel | omega)), if_neg (by (first | decide +kernel | omega))]
    rfl
theorem fx4 (ad : Nat → Nat) (k0 k1 k2 k3 : Nat) : va_up (va_up (va_up (va_up (fun _ => none) 0 (some (ad k0))) 1 (some (ad k1))) 2 (some (ad k2))) 3 (some (ad k3)) = fun j => (([k0, k1, k2, k3] : List Nat)[j]?).map ad := by
  funext j
  match j with
  | 0 => rfl
  | 1 => rfl
  | 2 => rfl
  | 3 => rfl
  | j + 4 =>
    show (if j + 4 = 3 then _ else if j + 4 = 2 then _ else if j + 4 = 1 then _ else if j + 4 = 0 then _ else none) = _
    rw [if_neg (by (first | decide +kernel | omega)), if_neg (by (first | decide +kernel | omega)), if_neg (by (first | decide +kernel | omega)), if_neg (by (first | decide +kernel | omega))]
    rfl
theorem fx6 (ad r : Nat → Nat) (h0 : ad 95 = r 0) (h1 : ad 96 = r 1) (h2 : ad 97 = r 2) (h3 : ad 98 = r 3) (h4 : ad 99 = r 4) (h5 : ad 100 = r 5) : (fun i => if i < 6 then some (r i) else none) = fun j => (([95, 96, 97, 98, 99, 100] : List Nat)[j]?).map ad := by
  funext j
  match j with
  | 0 => rw [if_pos (by decide), ← h0]; rfl
  | 1 => rw [if_pos (by decide), ← h1]; rfl
  | 2 => rw [if_pos (by decide), ← h2]; rfl
  | 3 => rw [if_pos (by decide), ← h3]; rfl
  | 4 => rw [if_pos (by decide), ← h4]; rfl
  | 5 => rw [if_pos (by decide), ← h5]; rfl
  | j + 6 => rw [if_neg (by (first | decide +kernel | omega))]; rfl
theorem st_rodw (ca : Nat → ClassId) (ro : Nat → Nat) (b a0 m0 : Nat) (q1 : Nat) (q18 : Nat) (q35 : Nat) (q36 : Nat) (q37 : Nat) (q38 : Nat) (q59 : Nat) (q63 : Nat) (q65 : Nat) (q68 : Nat) (q2 : Nat) (q3 : Nat) (q4 : Nat) (q5 : Nat) (q6 : Nat) (q7 : Nat) (q8 : Nat) (q9 : Nat) (q10 : Nat) (q11 : Nat) (q12 : Nat) (q13 : Nat) (q14 : Nat) (q15 : Nat) (q16 : Nat) (q17 : Nat) (q19 : Nat) (q20 : Nat) (q21 : Nat) (q22 : Nat) (q23 : Nat) (q24 : Nat) (q25 : Nat) (q26 : Nat) (q27 : Nat) (q28 : Nat) (q29 : Nat) (q30 : Nat) (q31 : Nat) (q32 : Nat) (q33 : Nat) (q34 : Nat) (q69 : Nat) (q86 : Nat) (q39 : Nat) (q40 : Nat) (q41 : Nat) (q42 : Nat) (q43 : Nat) (q44 : Nat) (q45 : Nat) (q46 : Nat) (q47 : Nat) (q48 : Nat) (q49 : Nat) (q50 : Nat) (q51 : Nat) (q52 : Nat) (q53 : Nat) (q54 : Nat) (q55 : Nat) (q56 : Nat) (q57 : Nat) (q58 : Nat) (q60 : Nat) (q61 : Nat) (r62 : Nat → Nat) (q64 : Nat) (q66 : Nat) (q67 : Nat) (q103 : Nat) (q105 : Nat) (q107 : Nat) (q109 : Nat) (q70 : Nat) (q71 : Nat) (q72 : Nat) (q73 : Nat) (q74 : Nat) (q75 : Nat) (q76 : Nat) (q77 : Nat) (q78 : Nat) (q79 : Nat) (q80 : Nat) (q81 : Nat) (q82 : Nat) (q83 : Nat) (q84 : Nat) (q85 : Nat) (q87 : Nat) (q88 : Nat) (q89 : Nat) (q90 : Nat) (q91 : Nat) (q92 : Nat) (q93 : Nat) (q94 : Nat) (q95 : Nat) (q96 : Nat) (q97 : Nat) (q98 : Nat) (q99 : Nat) (q100 : Nat) (q101 : Nat) (q102 : Nat) (q104 : Nat) (q106 : Nat) (q108 : Nat) (q110 : Nat) (n1 : Nat) (n2 : Nat) (n3 : Nat) (n4 : Nat) (n5 : Nat) (n6 : Nat) (n7 : Nat) (n8 : Nat) (n9 : Nat) (n10 : Nat) (n11 : Nat) (n12 : Nat) (n13 : Nat) (n14 : Nat) (n15 : Nat) : ([(a0, .inr (10, [.ref q1, .ref q18, .ref q35, .ref q36, .ref q37, .ref q38, .ref q59, .ref q63, .ref q65, .ref q68, .int 0])), (q1, .inr (1, [.ref q2, .ref q3, .ref q4, .int 0, .int 9])), (q4, .inr (7, [.ref q5, .ref q6, .ref q7, .ref q8, .int 0])), (q5, .inl (ca 0, 8, .inl (fun _ => 0))), (q6, .inl (ca 0, 8, .inl (fun _ => 0))), (q7, .inl (ca 0, 8, .inl (fun _ => 0))), (q8, .inl (ca 0, 8, .inl (fun _ => 0))), (q2, .inr (2, [.int 3, .int 3, .int 1, .int 10, .ref q9, .ref q10, .ref q11, .ref q12, .ref q13])), (q9, .inl (ca 0, 16, .inl (fun _ => 0))), (q10, .inl (ca 0, 16, .inl (fun _ => 0))), (q11, .inl (ca 0, 16, .inl (fun _ => 5))), (q12, .inl (ca 0, 16, .inl (fun _ => (-4)))), (q13, .inl (ca 0, 16, .inl (fun _ => 0))), (q3, .inr (3, [.ref q14, .ref q15, .ref q16, .ref q17, .int 0])), (q15, .inl (ca 0, 8, .inl (fun _ => 0))), (q16, .inl (ca 0, 8, .inl (fun _ => 0))), (q17, .inl (ca 0, 8, .inl (fun _ => 0))), (q14, .inl (ca 0, 4, .inl (fun _ => 0))), (q18, .inr (1, [.ref q19, .ref q20, .ref q21, .int 0, .int 9])), (q21, .inr (7, [.ref q22, .ref q23, .ref q24, .ref q25, .int 0])), (q22, .inl (ca 0, 8, .inl (fun _ => 0))), (q23, .inl (ca 0, 8, .inl (fun _ => 0))), (q24, .inl (ca 0, 8, .inl (fun _ => 0))), (q25, .inl (ca 0, 8, .inl (fun _ => 0))), (q19, .inr (2, [.int 3, .int 3, .int 1, .int 10, .ref q26, .ref q27, .ref q28, .ref q29, .ref q30])), (q26, .inl (ca 0, 16, .inl (fun _ => 0))), (q27, .inl (ca 0, 16, .inl (fun _ => 0))), (q28, .inl (ca 0, 16, .inl (fun _ => 5))), (q29, .inl (ca 0, 16, .inl (fun _ => (-4)))), (q30, .inl (ca 0, 16, .inl (fun _ => 0))), (q20, .inr (3, [.ref q31, .ref q32, .ref q33, .ref q34, .int 0])), (q32, .inl (ca 0, 8, .inl (fun _ => 0))), (q33, .inl (ca 0, 8, .inl (fun _ => 0))), (q34, .inl (ca 0, 8, .inl (fun _ => 0))), (q31, .inl (ca 0, 4, .inl (fun _ => 0))), (q35, .inl (ca 3, 2, .inr (.inr (.inr (.inr (va_up (va_up (fun _ => none) 0 (some q69)) 1 (some q86))))))), (q36, .inl (ca 2, 2, .inl (fun _ => 0))), (q37, .inr (5, [.ref q38, .ref q39, .ref q40, .ref q41, .int 0, .int 0, .int 0])), (q38, .inr (8, [.ref q42, .int 0, .int 0, .int 0, .int 0, .int 0])), (q42, .inl (ca 1, 160, .inl (fun _ => 0))), (q39, .inr (1, [.ref q43, .ref q44, .ref q45, .int 0, .int 9])), (q45, .inr (7, [.ref q46, .ref q47, .ref q48, .ref q49, .int 0])), (q46, .inl (ca 0, 8, .inl (fun _ => 0))), (q47, .inl (ca 0, 8, .inl (fun _ => 0))), (q48, .inl (ca 0, 8, .inl (fun _ => 0))), (q49, .inl (ca 0, 8, .inl (fun _ => 0))), (q43, .inr (2, [.int 3, .int 3, .int 1, .int 10, .ref q50, .ref q51, .ref q52, .ref q53, .ref q54])), (q50, .inl (ca 0, 16, .inl (fun _ => 0))), (q51, .inl (ca 0, 16, .inl (fun _ => 0))), (q52, .inl (ca 0, 16, .inl (fun _ => 5))), (q53, .inl (ca 0, 16, .inl (fun _ => (-4)))), (q54, .inl (ca 0, 16, .inl (fun _ => 0))), (q44, .inr (3, [.ref q55, .ref q56, .ref q57, .ref q58, .int 0])), (q56, .inl (ca 0, 8, .inl (fun _ => 0))), (q57, .inl (ca 0, 8, .inl (fun _ => 0))), (q58, .inl (ca 0, 8, .inl (fun _ => 0))), (q55, .inl (ca 0, 4, .inl (fun _ => 0))), (q40, .inl (ca 0, 3, .inl (fun _ => 0))), (q41, .inl (ca 0, 10, .inl (fun _ => 0))), (q59, .inr (9, [.ref q60, .ref q61])), (q60, .inl (ca 5, 6, .inr (.inr (.inr (.inr (fun i => if i < 6 then some (r62 i) else none)))))), ((r62 0), .inl (ca 0, 16, .inl (fun _ => 0))), ((r62 1), .inl (ca 0, 16, .inl (fun _ => 0))), ((r62 2), .inl (ca 0, 16, .inl (fun _ => 0))), ((r62 3), .inl (ca 0, 16, .inl (fun _ => 0))), ((r62 4), .inl (ca 0, 16, .inl (fun _ => 0))), ((r62 5), .inl (ca 0, 16, .inl (fun _ => 0))), (q61, .inl (ca 0, 6, .inl (fun _ => 0))), (q63, .inr (4, [.ref q64, .int 0, .int 0])), (q64, .inl (ca 0, 4, .inl (fun _ => 0))), (q65, .inr (0, [.ref q66, .int 0, .ref q67, .int 0, .int 0, .int 0, .int 0, .int 0])), (q66, .inl (ca 0, 48, .inl (fun _ => 0))), (q67, .inl (ca 0, 10, .inl (fun _ => 0))), (q68, .inl (ca 4, 4, .inr (.inr (.inr (.inr (va_up (va_up (va_up (va_up (fun _ => none) 0 (some q103)) 1 (some q105)) 2 (some q107)) 3 (some q109))))))), (q69, .inr (1, [.ref q70, .ref q71, .ref q72, .int 0, .int 9])), (q72, .inr (7, [.ref q73, .ref q74, .ref q75, .ref q76, .int 0])), (q73, .inl (ca 0, 8, .inl (fun _ => 0))), (q74, .inl (ca 0, 8, .inl (fun _ => 0))), (q75, .inl (ca 0, 8, .inl (fun _ => 0))), (q76, .inl (ca 0, 8, .inl (fun _ => 0))), (q70, .inr (2, [.int 3, .int 3, .int 1, .int 10, .ref q77, .ref q78, .ref q79, .ref q80, .ref q81])), (q77, .inl (ca 0, 16, .inl (fun _ => 0))), (q78, .inl (ca 0, 16, .inl (fun _ => 0))), (q79, .inl (ca 0, 16, .inl (fun _ => 5))), (q80, .inl (ca 0, 16, .inl (fun _ => (-4)))), (q81, .inl (ca 0, 16, .inl (fun _ => 0))), (q71, .inr (3, [.ref q82, .ref q83, .ref q84, .ref q85, .int 0])), (q83, .inl (ca 0, 8, .inl (fun _ => 0))), (q84, .inl (ca 0, 8, .inl (fun _ => 0))), (q85, .inl (ca 0, 8, .inl (fun _ => 0))), (q82, .inl (ca 0, 4, .inl (fun _ => 0))), (q86, .inr (1, [.ref q87, .ref q88, .ref q89, .int 0, .int 9])), (q89, .inr (7, [.ref q90, .ref q91, .ref q92, .ref q93, .int 0])), (q90, .inl (ca 0, 8, .inl (fun _ => 0))), (q91, .inl (ca 0, 8, .inl (fun _ => 0))), (q92, .inl (ca 0, 8, .inl (fun _ => 0))), (q93, .inl (ca 0, 8, .inl (fun _ => 0))), (q87, .inr (2, [.int 3, .int 3, .int 1, .int 10, .ref q94, .ref q95, .ref q96, .ref q97, .ref q98])), (q94, .inl (ca 0, 16, .inl (fun _ => 0))), (q95, .inl (ca 0, 16, .inl (fun _ => 0))), (q96, .inl (ca 0, 16, .inl (fun _ => 5))), (q97, .inl (ca 0, 16, .inl (fun _ => (-4)))), (q98, .inl (ca 0, 16, .inl (fun _ => 0))), (q88, .inr (3, [.ref q99, .ref q100, .ref q101, .ref q102, .int 0])), (q100, .inl (ca 0, 8, .inl (fun _ => 0))), (q101, .inl (ca 0, 8, .inl (fun _ => 0))), (q102, .inl (ca 0, 8, .inl (fun _ => 0))), (q99, .inl (ca 0, 4, .inl (fun _ => 0))), (q103, .inr (6, [.ref q104, .int (-1), .int 0])), (q104, .inl (ca 0, 40, .inl (fun _ => 0))), (q105, .inr (6, [.ref q106, .int (-1), .int 0])), (q106, .inl (ca 0, 40, .inl (fun _ => 0))), (q107, .inr (6, [.ref q108, .int (-1), .int 0])), (q108, .inl (ca 0, 40, .inl (fun _ => 0))), (q109, .inr (6, [.ref q110, .int (-1), .int 0])), (q110, .inl (ca 0, 40, .inl (fun _ => 0)))] : va_W) = [(a0, .inr (10, [.ref q1, .ref q18, .ref q35, .ref q36, .ref q37, .ref q38, .ref q59, .ref q63, .ref q65, .ref q68, .int 0])), (q1, .inr (1, [.ref q2, .ref q3, .ref q4, .int 0, .int 9])), (q4, .inr (7, [.ref q5, .ref q6, .ref q7, .ref q8, .int 0])), (q5, .inl (ca 0, 8, .inl (fun _ => 0))), (q6, .inl (ca 0, 8, .inl (fun _ => 0))), (q7, .inl (ca 0, 8, .inl (fun _ => 0))), (q8, .inl (ca 0, 8, .inl (fun _ => 0))), (q2, .inr (2, [.int 3, .int 3, .int 1, .int 10, .ref q9, .ref q10, .ref q11, .ref q12, .ref q13])), (q9, .inl (ca 0, 16, .inl (fun _ => 0))), (q10, .inl (ca 0, 16, .inl (fun _ => 0))), (q11, .inl (ca 0, 16, .inl (fun _ => 5))), (q12, .inl (ca 0, 16, .inl (fun _ => (-4)))), (q13, .inl (ca 0, 16, .inl (fun _ => 0))), (q3, .inr (3, [.ref q14, .ref q15, .ref q16, .ref q17, .int 0])), (q15, .inl (ca 0, 8, .inl (fun _ => 0))), (q16, .inl (ca 0, 8, .inl (fun _ => 0))), (q17, .inl (ca 0, 8, .inl (fun _ => 0))), (q14, .inl (ca 0, 4, .inl (fun _ => 0))), (q18, .inr (1, [.ref q19, .ref q20, .ref q21, .int 0, .int 9])), (q21, .inr (7, [.ref q22, .ref q23, .ref q24, .ref q25, .int 0])), (q22, .inl (ca 0, 8, .inl (fun _ => 0))), (q23, .inl (ca 0, 8, .inl (fun _ => 0))), (q24, .inl (ca 0, 8, .inl (fun _ => 0))), (q25, .inl (ca 0, 8, .inl (fun _ => 0))), (q19, .inr (2, [.int 3, .int 3, .int 1, .int 10, .ref q26, .ref q27, .ref q28, .ref q29, .ref q30])), (q26, .inl (ca 0, 16, .inl (fun _ => 0))), (q27, .inl (ca 0, 16, .inl (fun _ => 0))), (q28, .inl (ca 0, 16, .inl (fun _ => 5))), (q29, .inl (ca 0, 16, .inl (fun _ => (-4)))), (q30, .inl (ca 0, 16, .inl (fun _ => 0))), (q20, .inr (3, [.ref q31, .ref q32, .ref q33, .ref q34, .int 0])), (q32, .inl (ca 0, 8, .inl (fun _ => 0))), (q33, .inl (ca 0, 8, .inl (fun _ => 0))), (q34, .inl (ca 0, 8, .inl (fun _ => 0))), (q31, .inl (ca 0, 4, .inl (fun _ => 0))), (q35, .inl (ca 3, 2, .inr (.inr (.inr (.inr (fun j => (([34, 51] : List Nat)[j]?).map (adOf [q1, q2, q9, q10, q11, q12, q13, q3, q14, q15, q16, q17, q4, q5, q6, q7, q8, q18, q19, q26, q27, q28, q29, q30, q20, q31, q32, q33, q34, q21, q22, q23, q24, q25, q69, q70, q77, q78, q79, q80, q81, q71, q82, q83, q84, q85, q72, q73, q74, q75, q76, q86, q87, q94, q95, q96, q97, q98, q88, q99, q100, q101, q102, q89, q90, q91, q92, q93, q39, q43, q50, q51, q52, q53, q54, q44, q55, q56, q57, q58, q45, q46, q47, q48, q49, a0, q35, q36, q37, q38, q42, q40, q41, q59, q60, (r62 0), (r62 1), (r62 2), (r62 3), (r62 4), (r62 5), q61, q63, q64, q65, q66, q67, q68, q103, q104, q105, q106, q107, q108, q109, q110, m0, n1, n2, n3, n4, n5, n6, n7, n8, n9, n10, n11, n12, n13, n14, n15] ro b))))))), (q36, .inl (ca 2, 2, .inl (fun _ => 0))), (q37, .inr (5, [.ref q38, .ref q39, .ref q40, .ref q41, .int 0, .int 0, .int 0])), (q38, .inr (8, [.ref q42, .int 0, .int 0, .int 0, .int 0, .int 0])), (q42, .inl (ca 1, 160, .inl (fun _ => 0))), (q39, .inr (1, [.ref q43, .ref q44, .ref q45, .int 0, .int 9])), (q45, .inr (7, [.ref q46, .ref q47, .ref q48, .ref q49, .int 0])), (q46, .inl (ca 0, 8, .inl (fun _ => 0))), (q47, .inl (ca 0, 8, .inl (fun _ => 0))), (q48, .inl (ca 0, 8, .inl (fun _ => 0))), (q49, .inl (ca 0, 8, .inl (fun _ => 0))), (q43, .inr (2, [.int 3, .int 3, .int 1, .int 10, .ref q50, .ref q51, .ref q52, .ref q53, .ref q54])), (q50, .inl (ca 0, 16, .inl (fun _ => 0))), (q51, .inl (ca 0, 16, .inl (fun _ => 0))), (q52, .inl (ca 0, 16, .inl (fun _ => 5))), (q53, .inl (ca 0, 16, .inl (fun _ => (-4)))), (q54, .inl (ca 0, 16, .inl (fun _ => 0))), (q44, .inr (3, [.ref q55, .ref q56, .ref q57, .ref q58, .int 0])), (q56, .inl (ca 0, 8, .inl (fun _ => 0))), (q57, .inl (ca 0, 8, .inl (fun _ => 0))), (q58, .inl (ca 0, 8, .inl (fun _ => 0))), (q55, .inl (ca 0, 4, .inl (fun _ => 0))), (q40, .inl (ca 0, 3, .inl (fun _ => 0))), (q41, .inl (ca 0, 10, .inl (fun _ => 0))), (q59, .inr (9, [.ref q60, .ref q61])), (q60, .inl (ca 5, 6, .inr (.inr (.inr (.inr (fun j => (([95, 96, 97, 98, 99, 100] : List Nat)[j]?).map (adOf [q1, q2, q9, q10, q11, q12, q13, q3, q14, q15, q16, q17, q4, q5, q6, q7, q8, q18, q19, q26, q27, q28, q29, q30, q20, q31, q32, q33, q34, q21, q22, q23, q24, q25, q69, q70, q77, q78, q79, q80, q81, q71, q82, q83, q84, q85, q72, q73, q74, q75, q76, q86, q87, q94, q95, q96, q97, q98, q88, q99, q100, q101, q102, q89, q90, q91, q92, q93, q39, q43, q50, q51, q52, q53, q54, q44, q55, q56, q57, q58, q45, q46, q47, q48, q49, a0, q35, q36, q37, q38, q42, q40, q41, q59, q60, (r62 0), (r62 1), (r62 2), (r62 3), (r62 4), (r62 5), q61, q63, q64, q65, q66, q67, q68, q103, q104, q105, q106, q107, q108, q109, q110, m0, n1, n2, n3, n4, n5, n6, n7, n8, n9, n10, n11, n12, n13, n14, n15] ro b))))))), ((r62 0), .inl (ca 0, 16, .inl (fun _ => 0))), ((r62 1), .inl (ca 0, 16, .inl (fun _ => 0))), ((r62 2), .inl (ca 0, 16, .inl (fun _ => 0))), ((r62 3), .inl (ca 0, 16, .inl (fun _ => 0))), ((r62 4), .inl (ca 0, 16, .inl (fun _ => 0))), ((r62 5), .inl (ca 0, 16, .inl (fun _ => 0))), (q61, .inl (ca 0, 6, .inl (fun _ => 0))), (q63, .inr (4, [.ref q64, .int 0, .int 0])), (q64, .inl (ca 0, 4, .inl (fun _ => 0))), (q65, .inr (0, [.ref q66, .int 0, .ref q67, .int 0, .int 0, .int 0, .int 0, .int 0])), (q66, .inl (ca 0, 48, .inl (fun _ => 0))), (q67, .inl (ca 0, 10, .inl (fun _ => 0))), (q68, .inl (ca 4, 4, .inr (.inr (.inr (.inr (fun j => (([108, 110, 112, 114] : List Nat)[j]?).map (adOf [q1, q2, q9, q10, q11, q12, q13, q3, q14, q15, q16, q17, q4, q5, q6, q7, q8, q18, q19, q26, q27, q28, q29, q30, q20, q31, q32, q33, q34, q21, q22, q23, q24, q25, q69, q70, q77, q78, q79, q80, q81, q71, q82, q83, q84, q85, q72, q73, q74, q75, q76, q86, q87, q94, q95, q96, q97, q98, q88, q99, q100, q101, q102, q89, q90, q91, q92, q93, q39, q43, q50, q51, q52, q53, q54, q44, q55, q56, q57, q58, q45, q46, q47, q48, q49, a0, q35, q36, q37, q38, q42, q40, q41, q59, q60, (r62 0), (r62 1), (r62 2), (r62 3), (r62 4), (r62 5), q61, q63, q64, q65, q66, q67, q68, q103, q104, q105, q106, q107, q108, q109, q110, m0, n1, n2, n3, n4, n5, n6, n7, n8, n9, n10, n11, n12, n13, n14, n15] ro b))))))), (q69, .inr (1, [.ref q70, .ref q71, .ref q72, .int 0, .int 9])), (q72, .inr (7, [.ref q73, .ref q74, .ref q75, .ref q76, .int 0])), (q73, .inl (ca 0, 8, .inl (fun _ => 0))), (q74, .inl (ca 0, 8, .inl (fun _ => 0))), (q75, .inl (ca 0, 8, .inl (fun _ => 0))), (q76, .inl (ca 0, 8, .inl (fun _ => 0))), (q70, .inr (2, [.int 3, .int 3, .int 1, .int 10, .ref q77, .ref q78, .ref q79, .ref q80, .ref q81])), (q77, .inl (ca 0, 16, .inl (fun _ => 0))), (q78, .inl (ca 0, 16, .inl (fun _ => 0))), (q79, .inl (ca 0, 16, .inl (fun _ => 5))), (q80, .inl (ca 0, 16, .inl (fun _ => (-4)))), (q81, .inl (ca 0, 16, .inl (fun _ => 0))), (q71, .inr (3, [.ref q82, .ref q83, .ref q84, .ref q85, .int 0])), (q83, .inl (ca 0, 8, .inl (fun _ => 0))), (q84, .inl (ca 0, 8, .inl (fun _ => 0))), (q85, .inl (ca 0, 8, .inl (fun _ => 0))), (q82, .inl (ca 0, 4, .inl (fun _ => 0))), (q86, .inr (1, [.ref q87, .ref q88, .ref q89, .int 0, .int 9])), (q89, .inr (7, [.ref q90, .ref q91, .ref q92, .ref q93, .int 0])), (q90, .inl (ca 0, 8, .inl (fun _ => 0))), (q91, .inl (ca 0, 8, .inl (fun _ => 0))), (q92, .inl (ca 0, 8, .inl (fun _ => 0))), (q93, .inl (ca 0, 8, .inl (fun _ => 0))), (q87, .inr (2, [.int 3, .int 3, .int 1, .int 10, .ref q94, .ref q95, .ref q96, .ref q97, .ref q98])), (q94, .inl (ca 0, 16, .inl (fun _ => 0))), (q95, .inl (ca 0, 16, .inl (fun _ => 0))), (q96, .inl (ca 0, 16, .inl (fun _ => 5))), (q97, .inl (ca 0, 16, .inl (fun _ => (-4)))), (q98, .inl (ca 0, 16, .inl (fun _ => 0))), (q88, .inr (3, [.ref q99, .ref q100, .ref q101, .ref q102, .int 0])), (q100, .inl (ca 0, 8, .inl (fun _ => 0))), (q101, .inl (ca 0, 8, .inl (fun _ => 0))), (q102, .inl (ca 0, 8, .inl (fun _ => 0))), (q99, .inl (ca 0, 4, .inl (fun _ => 0))), (q103, .inr (6, [.ref q104, .int (-1), .int 0])), (q104, .inl (ca 0, 40, .inl (fun _ => 0))), (q105, .inr (6, [.ref q106, .int (-1), .int 0])), (q106, .inl (ca 0, 40, .inl (fun _ => 0))), (q107, .inr (6, [.ref q108, .int (-1), .int 0])), (q108, .inl (ca 0, 40, .inl (fun _ => 0))), (q109, .inr (6, [.ref q110, .int (-1), .int 0])), (q110, .inl (ca 0, 40, .inl (fun _ => 0)))] := by
  rw [show (va_up (va_up (fun _ => none) 0 (some q69)) 1 (some q86)) = (fun j => (([34, 51] : List Nat)[j]?).map (adOf [q1, q2, q9, q10, q11, q12, q13, q3, q14, q15, q16, q17, q4, q5, q6, q7, q8, q18, q19, q26, q27, q28, q29, q30, q20, q31, q32, q33, q34, q21, q22, q23, q24, q25, q69, q70, q77, q78, q79, q80, q81, q71, q82, q83, q84, q85, q72, q73, q74, q75, q76, q86, q87, q94, q95, q96, q97, q98, q88, q99, q100, q101, q102, q89, q90, q91, q92, q93, q39, q43, q50, q51, q52, q53, q54, q44, q55, q56, q57, q58, q45, q46, q47, q48, q49, a0, q35, q36, q37, q38, q42, q40, q41, q59, q60, (r62 0), (r62 1), (r62 2), (r62 3), (r62 4), (r62 5), q61, q63, q64, q65, q66, q67, q68, q103, q104, q105, q106, q107, q108, q109, q110, m0, n1, n2, n3, n4, n5, n6, n7, n8, n9, n10, n11, n12, n13, n14, n15] ro b)) from fx2 (adOf [q1, q2, q9, q10, q11, q12, q13, q3, q14, q15, q16, q17, q4, q5, q6, q7, q8, q18, q19, q26, q27, q28, q29, q30, q20, q31, q32, q33, q34, q21, q22, q23, q24, q25, q69, q70, q77, q78, q79, q80, q81, q71, q82, q83, q84, q85, q72, q73, q74, q75, q76, q86, q87, q94, q95, q96, q97, q98, q88, q99, q100, q101, q102, q89, q90, q91, q92, q93, q39, q43, q50, q51, q52, q53, q54, q44, q55, q56, q57, q58, q45, q46, q47, q48, q49, a0, q35, q36, q37, q38, q42, q40, q41, q59, q60, (r62 0), (r62 1), (r62 2), (r62 3), (r62 4), (r62 5), q61, q63, q64, q65, q66, q67, q68, q103, q104, q105, q106, q107, q108, q109, q110, m0, n1, n2, n3, n4, n5, n6, n7, n8, n9, n10, n11, n12, n13, n14, n15] ro b) 34 51, show (va_up (va_up (va_up (va_up (fun _ => none) 0 (some q103)) 1 (some q105)) 2 (some q107)) 3 (some q109)) = (fun j => (([108, 110, 112, 114] : List Nat)[j]?).map (adOf [q1, q2, q9, q10, q11, q12, q13, q3, q14, q15, q16, q17, q4, q5, q6, q7, q8, q18, q19, q26, q27, q28, q29, q30, q20, q31, q32, q33, q34, q21, q22, q23, q24, q25, q69, q70, q77, q78, q79, q80, q81, q71, q82, q83, q84, q85, q72, q73, q74, q75, q76, q86, q87, q94, q95, q96, q97, q98, q88, q99, q100, q101, q102, q89, q90, q91, q92, q93, q39, q43, q50, q51, q52, q53, q54, q44, q55, q56, q57, q58, q45, q46, q47, q48, q49, a0, q35, q36, q37, q38, q42, q40, q41, q59, q60, (r62 0), (r62 1), (r62 2), (r62 3), (r62 4), (r62 5), q61, q63, q64, q65, q66, q67, q68, q103, q104, q105, q106, q107, q108, q109, q110, m0, n1, n2, n3, n4, n5, n6, n7, n8, n9, n10, n11, n12, n13, n14, n15] ro b)) from fx4 (adOf [q1, q2, q9, q10, q11, q12, q13, q3, q14, q15, q16, q17, q4, q5, q6, q7, q8, q18, q19, q26, q27, q28, q29, q30, q20, q31, q32, q33, q34, q21, q22, q23, q24, q25, q69, q70, q77, q78, q79, q80, q81, q71, q82, q83, q84, q85, q72, q73, q74, q75, q76, q86, q87, q94, q95, q96, q97, q98, q88, q99, q100, q101, q102, q89, q90, q91, q92, q93, q39, q43, q50, q51, q52, q53, q54, q44, q55, q56, q57, q58, q45, q46, q47, q48, q49, a0, q35, q36, q37, q38, q42, q40, q41, q59, q60, (r62 0), (r62 1), (r62 2), (r62 3), (r62 4), (r62 5), q61, q63, q64, q65, q66, q67, q68, q103, q104, q105, q106, q107, q108, q109, q110, m0, n1, n2, n3, n4, n5, n6, n7, n8, n9, n10, n11, n12, n13, n14, n15] ro b) 108 110 112 114, show (fun i => if i < 6 then some (r62 i) else none) = (fun j => (([95, 96, 97, 98, 99, 100] : List Nat)[j]?).map (adOf [q1, q2, q9, q10, q11, q12, q13, q3, q14, q15, q16, q17, q4, q5, q6, q7, q8, q18, q19, q26, q27, q28, q29, q30, q20, q31, q32, q33, q34, q21, q22, q23, q24, q25, q69, q70, q77, q78, q79, q80, q81, q71, q82, q83, q84, q85, q72, q73, q74, q75, q76, q86, q87, q94, q95, q96, q97, q98, q88, q99, q100, q101, q102, q89, q90, q91, q92, q93, q39, q43, q50, q51, q52, q53, q54, q44, q55, q56, q57, q58, q45, q46, q47, q48, q49, a0, q35, q36, q37, q38, q42, q40, q41, q59, q60, (r62 0), (r62 1), (r62 2), (r62 3), (r62 4), (r62 5), q61, q63, q64, q65, q66, q67, q68, q103, q104, q105, q106, q107, q108, q109, q110, m0, n1, n2, n3, n4, n5, n6, n7, n8, n9, n10, n11, n12, n13, n14, n15] ro b)) from fx6 (adOf [q1, q2, q9, q10, q11, q12, q13, q3, q14, q15, q16, q17, q4, q5, q6, q7, q8, q18, q19, q26, q27, q28, q29, q30, q20, q31, q32, q33, q34, q21, q22, q23, q24, q25, q69, q70, q77, q78, q79, q80, q81, q71, q82, q83, q84, q85, q72, q73, q74, q75, q76, q86, q87, q94, q95, q96, q97, q98, q88, q99, q100, q101, q102, q89, q90, q91, q92, q93, q39, q43, q50, q51, q52, q53, q54, q44, q55, q56, q57, q58, q45, q46, q47, q48, q49, a0, q35, q36, q37, q38, q42, q40, q41, q59, q60, (r62 0), (r62 1), (r62 2), (r62 3), (r62 4), (r62 5), q61, q63, q64, q65, q66, q67, q68, q103, q104, q105, q106, q107, q108, q109, q110, m0, n1, n2, n3, n4, n5, n6, n7, n8, n9, n10, n11, n12, n13, n14, n15] ro b) r62 rfl rfl rfl rfl rfl rfl]
def WD (ca : Nat → ClassId) (v : Nat → Nat) : va_W := [(v 85, .inr (10, [.ref (v 0), .ref (v 17), .ref (v 86), .ref (v 87), .ref (v 88), .ref (v 89), .ref (v 93), .ref (v 102), .ref (v 104), .ref (v 107), .int 0])), (v 0, .inr (1, [.ref (v 1), .ref (v 7), .ref (v 12), .int 0, .int 9])), (v 12, .inr (7, [.ref (v 13), .ref (v 14), .ref (v 15), .ref (v 16), .int 0])), (v 13, .inl (ca 0, 8, .inl (fun _ => 0))), (v 14, .inl (ca 0, 8, .inl (fun _ => 0))), (v 15, .inl (ca 0, 8, .inl (fun _ => 0))), (v 16, .inl (ca 0, 8, .inl (fun _ => 0))), (v 1, .inr (2, [.int 3, .int 3, .int 1, .int 10, .ref (v 2), .ref (v 3), .ref (v 4), .ref (v 5), .ref (v 6)])), (v 2, .inl (ca 0, 16, .inl (fun _ => 0))), (v 3, .inl (ca 0, 16, .inl (fun _ => 0))), (v 4, .inl (ca 0, 16, .inl (fun _ => 5))), (v 5, .inl (ca 0, 16, .inl (fun _ => (-4)))), (v 6, .inl (ca 0, 16, .inl (fun _ => 0))), (v 7, .inr (3, [.ref (v 8), .ref (v 9), .ref (v 10), .ref (v 11), .int 0])), (v 9, .inl (ca 0, 8, .inl (fun _ => 0))), (v 10, .inl (ca 0, 8, .inl (fun _ => 0))), (v 11, .inl (ca 0, 8, .inl (fun _ => 0))), (v 8, .inl (ca 0, 4, .inl (fun _ => 0))), (v 17, .inr (1, [.ref (v 18), .ref (v 24), .ref (v 29), .int 0, .int 9])), (v 29, .inr (7, [.ref (v 30), .ref (v 31), .ref (v 32), .ref (v 33), .int 0])), (v 30, .inl (ca 0, 8, .inl (fun _ => 0))), (v 31, .inl (ca 0, 8, .inl (fun _ => 0))), (v 32, .inl (ca 0, 8, .inl (fun _ => 0))), (v 33, .inl (ca 0, 8, .inl (fun _ => 0))), (v 18, .inr (2, [.int 3, .int 3, .int 1, .int 10, .ref (v 19), .ref (v 20), .ref (v 21), .ref (v 22), .ref (v 23)])), (v 19, .inl (ca 0, 16, .inl (fun _ => 0))), (v 20, .inl (ca 0, 16, .inl (fun _ => 0))), (v 21, .inl (ca 0, 16, .inl (fun _ => 5))), (v 22, .inl (ca 0, 16, .inl (fun _ => (-4)))), (v 23, .inl (ca 0, 16, .inl (fun _ => 0))), (v 24, .inr (3, [.ref (v 25), .ref (v 26), .ref (v 27), .ref (v 28), .int 0])), (v 26, .inl (ca 0, 8, .inl (fun _ => 0))), (v 27, .inl (ca 0, 8, .inl (fun _ => 0))), (v 28, .inl (ca 0, 8, .inl (fun _ => 0))), (v 25, .inl (ca 0, 4, .inl (fun _ => 0))), (v 86, .inl (ca 3, 2, .inr (.inr (.inr (.inr (fun j => (([34, 51] : List Nat)[j]?).map v)))))), (v 87, .inl (ca 2, 2, .inl (fun _ => 0))), (v 88, .inr (5, [.ref (v 89), .ref (v 68), .ref (v 91), .ref (v 92), .int 0, .int 0, .int 0])), (v 89, .inr (8, [.ref (v 90), .int 0, .int 0, .int 0, .int 0, .int 0])), (v 90, .inl (ca 1, 160, .inl (fun _ => 0))), (v 68, .inr (1, [.ref (v 69), .ref (v 75), .ref (v 80), .int 0, .int 9])), (v 80, .inr (7, [.ref (v 81), .ref (v 82), .ref (v 83), .ref (v 84), .int 0])), (v 81, .inl (ca 0, 8, .inl (fun _ => 0))), (v 82, .inl (ca 0, 8, .inl (fun _ => 0))), (v 83, .inl (ca 0, 8, .inl (fun _ => 0))), (v 84, .inl (ca 0, 8, .inl (fun _ => 0))), (v 69, .inr (2, [.int 3, .int 3, .int 1, .int 10, .ref (v 70), .ref (v 71), .ref (v 72), .ref (v 73), .ref (v 74)])), (v 70, .inl (ca 0, 16, .inl (fun _ => 0))), (v 71, .inl (ca 0, 16, .inl (fun _ => 0))), (v 72, .inl (ca 0, 16, .inl (fun _ => 5))), (v 73, .inl (ca 0, 16, .inl (fun _ => (-4)))), (v 74, .inl (ca 0, 16, .inl (fun _ => 0))), (v 75, .inr (3, [.ref (v 76), .ref (v 77), .ref (v 78), .ref (v 79), .int 0])), (v 77, .inl (ca 0, 8, .inl (fun _ => 0))), (v 78, .inl (ca 0, 8, .inl (fun _ => 0))), (v 79, .inl (ca 0, 8, .inl (fun _ => 0))), (v 76, .inl (ca 0, 4, .inl (fun _ => 0))), (v 91, .inl (ca 0, 3, .inl (fun _ => 0))), (v 92, .inl (ca 0, 10, .inl (fun _ => 0))), (v 93, .inr (9, [.ref (v 94), .ref (v 101)])), (v 94, .inl (ca 5, 6, .inr (.inr (.inr (.inr (fun j => (([95, 96, 97, 98, 99, 100] : List Nat)[j]?).map v)))))), (v 95, .inl (ca 0, 16, .inl (fun _ => 0))), (v 96, .inl (ca 0, 16, .inl (fun _ => 0))), (v 97, .inl (ca 0, 16, .inl (fun _ => 0))), (v 98, .inl (ca 0, 16, .inl (fun _ => 0))), (v 99, .inl (ca 0, 16, .inl (fun _ => 0))), (v 100, .inl (ca 0, 16, .inl (fun _ => 0))), (v 101, .inl (ca 0, 6, .inl (fun _ => 0))), (v 102, .inr (4, [.ref (v 103), .int 0, .int 0])), (v 103, .inl (ca 0, 4, .inl (fun _ => 0))), (v 104, .inr (0, [.ref (v 105), .int 0, .ref (v 106), .int 0, .int 0, .int 0, .int 0, .int 0])), (v 105, .inl (ca 0, 48, .inl (fun _ => 0))), (v 106, .inl (ca 0, 10, .inl (fun _ => 0))), (v 107, .inl (ca 4, 4, .inr (.inr (.inr (.inr (fun j => (([108, 110, 112, 114] : List Nat)[j]?).map v)))))), (v 34, .inr (1, [.ref (v 35), .ref (v 41), .ref (v 46), .int 0, .int 9])), (v 46, .inr (7, [.ref (v 47), .ref (v 48), .ref (v 49), .ref (v 50), .int 0])), (v 47, .inl (ca 0, 8, .inl (fun _ => 0))), (v 48, .inl (ca 0, 8, .inl (fun _ => 0))), (v 49, .inl (ca 0, 8, .inl (fun _ => 0))), (v 50, .inl (ca 0, 8, .inl (fun _ => 0))), (v 35, .inr (2, [.int 3, .int 3, .int 1, .int 10, .ref (v 36), .ref (v 37), .ref (v 38), .ref (v 39), .ref (v 40)])), (v 36, .inl (ca 0, 16, .inl (fun _ => 0))), (v 37, .inl (ca 0, 16, .inl (fun _ => 0))), (v 38, .inl (ca 0, 16, .inl (fun _ => 5))), (v 39, .inl (ca 0, 16, .inl (fun _ => (-4)))), (v 40, .inl (ca 0, 16, .inl (fun _ => 0))), (v 41, .inr (3, [.ref (v 42), .ref (v 43), .ref (v 44), .ref (v 45), .int 0])), (v 43, .inl (ca 0, 8, .inl (fun _ => 0))), (v 44, .inl (ca 0, 8, .inl (fun _ => 0))), (v 45, .inl (ca 0, 8, .inl (fun _ => 0))), (v 42, .inl (ca 0, 4, .inl (fun _ => 0))), (v 51, .inr (1, [.ref (v 52), .ref (v 58), .ref (v 63), .int 0, .int 9])), (v 63, .inr (7, [.ref (v 64), .ref (v 65), .ref (v 66), .ref (v 67), .int 0])), (v 64, .inl (ca 0, 8, .inl (fun _ => 0))), (v 65, .inl (ca 0, 8, .inl (fun _ => 0))), (v 66, .inl (ca 0, 8, .inl (fun _ => 0))), (v 67, .inl (ca 0, 8, .inl (fun _ => 0))), (v 52, .inr (2, [.int 3, .int 3, .int 1, .int 10, .ref (v 53), .ref (v 54), .ref (v 55), .ref (v 56), .ref (v 57)])), (v 53, .inl (ca 0, 16, .inl (fun _ => 0))), (v 54, .inl (ca 0, 16, .inl (fun _ => 0))), (v 55, .inl (ca 0, 16, .inl (fun _ => 5))), (v 56, .inl (ca 0, 16, .inl (fun _ => (-4)))), (v 57, .inl (ca 0, 16, .inl (fun _ => 0))), (v 58, .inr (3, [.ref (v 59), .ref (v 60), .ref (v 61), .ref (v 62), .int 0])), (v 60, .inl (ca 0, 8, .inl (fun _ => 0))), (v 61, .inl (ca 0, 8, .inl (fun _ => 0))), (v 62, .inl (ca 0, 8, .inl (fun _ => 0))), (v 59, .inl (ca 0, 4, .inl (fun _ => 0))), (v 108, .inr (6, [.ref (v 109), .int (-1), .int 0])), (v 109, .inl (ca 0, 40, .inl (fun _ => 0))), (v 110, .inr (6, [.ref (v 111), .int (-1), .int 0])), (v 111, .inl (ca 0, 40, .inl (fun _ => 0))), (v 112, .inr (6, [.ref (v 113), .int (-1), .int 0])), (v 113, .inl (ca 0, 40, .inl (fun _ => 0))), (v 114, .inr (6, [.ref (v 115), .int (-1), .int 0])), (v 115, .inl (ca 0, 40, .inl (fun _ => 0))), (v 116, .inr (11, [.ref (v 117), .ref (v 118), .int 3, .int 3, .int 1, .int 10, .ref (v 119), .int 3, .int 3, .int 1, .int 10, .int 0, .ref (v 120), .int (-4), .ref (v 121), .int 0, .int 0, .int 0, .int 0, .int 0, .int 0, .int 0, .ref (v 122), .ref (v 123), .ref (v 124), .int 0, .long 0, .ref (v 125), .int 0, .ref (v 126), .int 0, .ref (v 127), .ref (v 128), .ref (v 129), .ref (v 130), .int 0, .ref (v 131)])), (v 117, .inl (ca 0, 432, .inl (fun i => if i < 144 then dr0 i else 0))), (v 118, .inl (ca 2, 2, .inl (fun _ => 0))), (v 119, .inl (ca 0, 144, .inl dr0)), (v 120, .inl (ca 0, 6, .inl (fun _ => 0))), (v 121, .inl (ca 0, 160, .inl (fun _ => 0))), (v 122, .inl (ca 0, 128, .inl (fun _ => 0))), (v 123, .inl (ca 0, 4, .inl (fun _ => 0))), (v 124, .inl (ca 0, 4, .inl (fun _ => 0))), (v 125, .inl (ca 0, 48, .inl (fun _ => 0))), (v 126, .inl (ca 0, 4, .inl (fun _ => 0))), (v 127, .inl (ca 0, 16, .inl (fun _ => 0))), (v 128, .inl (ca 0, 4, .inl (fun _ => -4))), (v 129, .inl (ca 0, 4, .inl (fun _ => 0))), (v 130, .inl (ca 0, 160, .inl (fun _ => 0))), (v 131, .inl (ca 0, 20, .inl (fun _ => 0)))]
def st_pm : List Nat := [1, 7, 8, 9, 10, 11, 12, 13, 17, 14, 15, 16, 2, 3, 4, 5, 6, 18, 24, 25, 26, 27, 28, 29, 30, 34, 31, 32, 33, 19, 20, 21, 22, 23, 74, 80, 81, 82, 83, 84, 85, 86, 90, 87, 88, 89, 75, 76, 77, 78, 79, 91, 97, 98, 99, 100, 101, 102, 103, 107, 104, 105, 106, 92, 93, 94, 95, 96, 40, 46, 47, 48, 49, 50, 51, 52, 56, 53, 54, 55, 41, 42, 43, 44, 45, 0, 35, 36, 37, 38, 39, 57, 58, 59, 60, 61, 62, 63, 64, 65, 66, 67, 68, 69, 70, 71, 72, 73, 108, 109, 110, 111, 112, 113, 114, 115, 116, 117, 118, 119, 120, 121, 122, 123, 124, 125, 126, 127, 128, 129, 130, 131]
def st_iv : List Nat := [85, 0, 12, 13, 14, 15, 16, 1, 2, 3, 4, 5, 6, 7, 9, 10, 11, 8, 17, 29, 30, 31, 32, 33, 18, 19, 20, 21, 22, 23, 24, 26, 27, 28, 25, 86, 87, 88, 89, 90, 68, 80, 81, 82, 83, 84, 69, 70, 71, 72, 73, 74, 75, 77, 78, 79, 76, 91, 92, 93, 94, 95, 96, 97, 98, 99, 100, 101, 102, 103, 104, 105, 106, 107, 34, 46, 47, 48, 49, 50, 35, 36, 37, 38, 39, 40, 41, 43, 44, 45, 42, 51, 63, 64, 65, 66, 67, 52, 53, 54, 55, 56, 57, 58, 60, 61, 62, 59, 108, 109, 110, 111, 112, 113, 114, 115, 116, 117, 118, 119, 120, 121, 122, 123, 124, 125, 126, 127, 128, 129, 130, 131]
theorem st_vi : ∀ i, i < 132 → st_iv.getD (st_pm.getD i 0) 0 = i := by decide +kernel
theorem st_nd : ∀ i, i < 132 → ∀ j, j < 132 → st_pm.getD i 0 = st_pm.getD j 0 → i = j := fun i hi j hj e => (st_vi i hi).symm.trans ((congrArg (fun x => st_iv.getD x 0) e).trans (st_vi j hj))
def mI (f : Nat → Sl → Value) : Nat → List Sl → List Value
  | _, [] => []
  | n, s :: ss => f n s :: mI f (n + 1) ss
theorem mI_eq (ss : List Sl) : ∀ (f : Nat → Sl → Value) (n : Nat), ss.mapIdx (fun i => f (n + i)) = mI f n ss := by
  induction ss with
  | nil => intro f n; rfl
  | cons s ss ih =>
    intro f n
    rw [List.mapIdx_cons]
    show f (n + 0) s :: _ = f n s :: mI f (n + 1) ss
    rw [← ih f (n + 1)]
    congr 1
    congr 1
    funext i
    rw [show n + (i + 1) = n + 1 + i by (first | decide +kernel | omega)]
theorem mI_0 (ss : List Sl) (f : Nat → Sl → Value) : ss.mapIdx f = mI f 0 ss := by
  rw [← mI_eq ss f 0]
  congr 1
  funext i
  rw [Nat.zero_add]
theorem wk_0 (D : va_G) (ca : Nat → ClassId) (v : Nat → Nat) : (WD ca v)[1]? = (vv_sk[0]?).map (fun q => (v 0, clE (D, v, ca) h0 0 q)) := by
  rw [sk_0]
  rfl
theorem wk_1 (D : va_G) (ca : Nat → ClassId) (v : Nat → Nat) : (WD ca v)[7]? = (vv_sk[1]?).map (fun q => (v 1, clE (D, v, ca) h0 1 q)) := by
  rw [sk_1]
  rfl
theorem wk_2 (D : va_G) (ca : Nat → ClassId) (v : Nat → Nat) : (WD ca v)[8]? = (vv_sk[2]?).map (fun q => (v 2, clE (D, v, ca) h0 2 q)) := by
  rw [sk_2]
  rfl
theorem wk_3 (D : va_G) (ca : Nat → ClassId) (v : Nat → Nat) : (WD ca v)[9]? = (vv_sk[3]?).map (fun q => (v 3, clE (D, v, ca) h0 3 q)) := by
  rw [sk_3]
  rfl
theorem wk_4 (D : va_G) (ca : Nat → ClassId) (v : Nat → Nat) : (WD ca v)[10]? = (vv_sk[4]?).map (fun q => (v 4, clE (D, v, ca) h0 4 q)) := by
  rw [sk_4]
  rfl
theorem wk_5 (D : va_G) (ca : Nat → ClassId) (v : Nat → Nat) : (WD ca v)[11]? = (vv_sk[5]?).map (fun q => (v 5, clE (D, v, ca) h0 5 q)) := by
  rw [sk_5]
  rfl
theorem wk_6 (D : va_G) (ca : Nat → ClassId) (v : Nat → Nat) : (WD ca v)[12]? = (vv_sk[6]?).map (fun q => (v 6, clE (D, v, ca) h0 6 q)) := by
  rw [sk_6]
  rfl
theorem wk_7 (D : va_G) (ca : Nat → ClassId) (v : Nat → Nat) : (WD ca v)[13]? = (vv_sk[7]?).map (fun q => (v 7, clE (D, v, ca) h0 7 q)) := by
  rw [sk_7]
  rfl
theorem wk_8 (D : va_G) (ca : Nat → ClassId) (v : Nat → Nat) : (WD ca v)[17]? = (vv_sk[8]?).map (fun q => (v 8, clE (D, v, ca) h0 8 q)) := by
  rw [sk_8]
  rfl
theorem wk_9 (D : va_G) (ca : Nat → ClassId) (v : Nat → Nat) : (WD ca v)[14]? = (vv_sk[9]?).map (fun q => (v 9, clE (D, v, ca) h0 9 q)) := by
  rw [sk_9]
  rfl
theorem wk_10 (D : va_G) (ca : Nat → ClassId) (v : Nat → Nat) : (WD ca v)[15]? = (vv_sk[10]?).map (fun q => (v 10, clE (D, v, ca) h0 10 q)) := by
  rw [sk_10]
  rfl
theorem wk_11 (D : va_G) (ca : Nat → ClassId) (v : Nat → Nat) : (WD ca v)[16]? = (vv_sk[11]?).map (fun q => (v 11, clE (D, v, ca) h0 11 q)) := by
  rw [sk_11]
  rfl
theorem wk_12 (D : va_G) (ca : Nat → ClassId) (v : Nat → Nat) : (WD ca v)[2]? = (vv_sk[12]?).map (fun q => (v 12, clE (D, v, ca) h0 12 q)) := by
  rw [sk_12]
  rfl
theorem wk_13 (D : va_G) (ca : Nat → ClassId) (v : Nat → Nat) : (WD ca v)[3]? = (vv_sk[13]?).map (fun q => (v 13, clE (D, v, ca) h0 13 q)) := by
  rw [sk_13]
  rfl
theorem wk_14 (D : va_G) (ca : Nat → ClassId) (v : Nat → Nat) : (WD ca v)[4]? = (vv_sk[14]?).map (fun q => (v 14, clE (D, v, ca) h0 14 q)) := by
  rw [sk_14]
  rfl
theorem wk_15 (D : va_G) (ca : Nat → ClassId) (v : Nat → Nat) : (WD ca v)[5]? = (vv_sk[15]?).map (fun q => (v 15, clE (D, v, ca) h0 15 q)) := by
  rw [sk_15]
  rfl
theorem wk_16 (D : va_G) (ca : Nat → ClassId) (v : Nat → Nat) : (WD ca v)[6]? = (vv_sk[16]?).map (fun q => (v 16, clE (D, v, ca) h0 16 q)) := by
  rw [sk_16]
  rfl
theorem wk_17 (D : va_G) (ca : Nat → ClassId) (v : Nat → Nat) : (WD ca v)[18]? = (vv_sk[17]?).map (fun q => (v 17, clE (D, v, ca) h0 17 q)) := by
  rw [sk_17]
  rfl
theorem wk_18 (D : va_G) (ca : Nat → ClassId) (v : Nat → Nat) : (WD ca v)[24]? = (vv_sk[18]?).map (fun q => (v 18, clE (D, v, ca) h0 18 q)) := by
  rw [sk_18]
  rfl
theorem wk_19 (D : va_G) (ca : Nat → ClassId) (v : Nat → Nat) : (WD ca v)[25]? = (vv_sk[19]?).map (fun q => (v 19, clE (D, v, ca) h0 19 q)) := by
  rw [sk_19]
  rfl
theorem wk_20 (D : va_G) (ca : Nat → ClassId) (v : Nat → Nat) : (WD ca v)[26]? = (vv_sk[20]?).map (fun q => (v 20, clE (D, v, ca) h0 20 q)) := by
  rw [sk_20]
  rfl
theorem wk_21 (D : va_G) (ca : Nat → ClassId) (v : Nat → Nat) : (WD ca v)[27]? = (vv_sk[21]?).map (fun q => (v 21, clE (D, v, ca) h0 21 q)) := by
  rw [sk_21]
  rfl
theorem wk_22 (D : va_G) (ca : Nat → ClassId) (v : Nat → Nat) : (WD ca v)[28]? = (vv_sk[22]?).map (fun q => (v 22, clE (D, v, ca) h0 22 q)) := by
  rw [sk_22]
  rfl
theorem wk_23 (D : va_G) (ca : Nat → ClassId) (v : Nat → Nat) : (WD ca v)[29]? = (vv_sk[23]?).map (fun q => (v 23, clE (D, v, ca) h0 23 q)) := by
  rw [sk_23]
  rfl
theorem wk_24 (D : va_G) (ca : Nat → ClassId) (v : Nat → Nat) : (WD ca v)[30]? = (vv_sk[24]?).map (fun q => (v 24, clE (D, v, ca) h0 24 q)) := by
  rw [sk_24]
  rfl
theorem wk_25 (D : va_G) (ca : Nat → ClassId) (v : Nat → Nat) : (WD ca v)[34]? = (vv_sk[25]?).map (fun q => (v 25, clE (D, v, ca) h0 25 q)) := by
  rw [sk_25]
  rfl
theorem wk_26 (D : va_G) (ca : Nat → ClassId) (v : Nat → Nat) : (WD ca v)[31]? = (vv_sk[26]?).map (fun q => (v 26, clE (D, v, ca) h0 26 q)) := by
  rw [sk_26]
  rfl
theorem wk_27 (D : va_G) (ca : Nat → ClassId) (v : Nat → Nat) : (WD ca v)[32]? = (vv_sk[27]?).map (fun q => (v 27, clE (D, v, ca) h0 27 q)) := by
  rw [sk_27]
  rfl
theorem wk_28 (D : va_G) (ca : Nat → ClassId) (v : Nat → Nat) : (WD ca v)[33]? = (vv_sk[28]?).map (fun q => (v 28, clE (D, v, ca) h0 28 q)) := by
  rw [sk_28]
  rfl
theorem wk_29 (D : va_G) (ca : Nat → ClassId) (v : Nat → Nat) : (WD ca v)[19]? = (vv_sk[29]?).map (fun q => (v 29, clE (D, v, ca) h0 29 q)) := by
  rw [sk_29]
  rfl
theorem wk_30 (D : va_G) (ca : Nat → ClassId) (v : Nat → Nat) : (WD ca v)[20]? = (vv_sk[30]?).map (fun q => (v 30, clE (D, v, ca) h0 30 q)) := by
  rw [sk_30]
  rfl
theorem wk_31 (D : va_G) (ca : Nat → ClassId) (v : Nat → Nat) : (WD ca v)[21]? = (vv_sk[31]?).map (fun q => (v 31, clE (D, v, ca) h0 31 q)) := by
  rw [sk_31]
  rfl
theorem wk_32 (D : va_G) (ca : Nat → ClassId) (v : Nat → Nat) : (WD ca v)[22]? = (vv_sk[32]?).map (fun q => (v 32, clE (D, v, ca) h0 32 q)) := by
  rw [sk_32]
  rfl
theorem wk_33 (D : va_G) (ca : Nat → ClassId) (v : Nat → Nat) : (WD ca v)[23]? = (vv_sk[33]?).map (fun q => (v 33, clE (D, v, ca) h0 33 q)) := by
  rw [sk_33]
  rfl
theorem wk_34 (D : va_G) (ca : Nat → ClassId) (v : Nat → Nat) : (WD ca v)[74]? = (vv_sk[34]?).map (fun q => (v 34, clE (D, v, ca) h0 34 q)) := by
  rw [sk_34]
  rfl
theorem wk_35 (D : va_G) (ca : Nat → ClassId) (v : Nat → Nat) : (WD ca v)[80]? = (vv_sk[35]?).map (fun q => (v 35, clE (D, v, ca) h0 35 q)) := by
  rw [sk_35]
  rfl
theorem wk_36 (D : va_G) (ca : Nat → ClassId) (v : Nat → Nat) : (WD ca v)[81]? = (vv_sk[36]?).map (fun q => (v 36, clE (D, v, ca) h0 36 q)) := by
  rw [sk_36]
  rfl
theorem wk_37 (D : va_G) (ca : Nat → ClassId) (v : Nat → Nat) : (WD ca v)[82]? = (vv_sk[37]?).map (fun q => (v 37, clE (D, v, ca) h0 37 q)) := by
  rw [sk_37]
  rfl
theorem wk_38 (D : va_G) (ca : Nat → ClassId) (v : Nat → Nat) : (WD ca v)[83]? = (vv_sk[38]?).map (fun q => (v 38, clE (D, v, ca) h0 38 q)) := by
  rw [sk_38]
  rfl
theorem wk_39 (D : va_G) (ca : Nat → ClassId) (v : Nat → Nat) : (WD ca v)[84]? = (vv_sk[39]?).map (fun q => (v 39, clE (D, v, ca) h0 39 q)) := by
  rw [sk_39]
  rfl
theorem wk_40 (D : va_G) (ca : Nat → ClassId) (v : Nat → Nat) : (WD ca v)[85]? = (vv_sk[40]?).map (fun q => (v 40, clE (D, v, ca) h0 40 q)) := by
  rw [sk_40]
  rfl
theorem wk_41 (D : va_G) (ca : Nat → ClassId) (v : Nat → Nat) : (WD ca v)[86]? = (vv_sk[41]?).map (fun q => (v 41, clE (D, v, ca) h0 41 q)) := by
  rw [sk_41]
  rfl
theorem wk_42 (D : va_G) (ca : Nat → ClassId) (v : Nat → Nat) : (WD ca v)[90]? = (vv_sk[42]?).map (fun q => (v 42, clE (D, v, ca) h0 42 q)) := by
  rw [sk_42]
  rfl
theorem wk_43 (D : va_G) (ca : Nat → ClassId) (v : Nat → Nat) : (WD ca v)[87]? = (vv_sk[43]?).map (fun q => (v 43, clE (D, v, ca) h0 43 q)) := by
  rw [sk_43]
  rfl
theorem wk_44 (D : va_G) (ca : Nat → ClassId) (v : Nat → Nat) : (WD ca v)[88]? = (vv_sk[44]?).map (fun q => (v 44, clE (D, v, ca) h0 44 q)) := by
  rw [sk_44]
  rfl
theorem wk_45 (D : va_G) (ca : Nat → ClassId) (v : Nat → Nat) : (WD ca v)[89]? = (vv_sk[45]?).map (fun q => (v 45, clE (D, v, ca) h0 45 q)) := by
  rw [sk_45]
  rfl
theorem wk_46 (D : va_G) (ca : Nat → ClassId) (v : Nat → Nat) : (WD ca v)[75]? = (vv_sk[46]?).map (fun q => (v 46, clE (D, v, ca) h0 46 q)) := by
  rw [sk_46]
  rfl
theorem wk_47 (D : va_G) (ca : Nat → ClassId) (v : Nat → Nat) : (WD ca v)[76]? = (vv_sk[47]?).map (fun q => (v 47, clE (D, v, ca) h0 47 q)) := by
  rw [sk_47]
  rfl
theorem wk_48 (D : va_G) (ca : Nat → ClassId) (v : Nat → Nat) : (WD ca v)[77]? = (vv_sk[48]?).map (fun q => (v 48, clE (D, v, ca) h0 48 q)) := by
  rw [sk_48]
  rfl
theorem wk_49 (D : va_G) (ca : Nat → ClassId) (v : Nat → Nat) : (WD ca v)[78]? = (vv_sk[49]?).map (fun q => (v 49, clE (D, v, ca) h0 49 q)) := by
  rw [sk_49]
  rfl
theorem wk_50 (D : va_G) (ca : Nat → ClassId) (v : Nat → Nat) : (WD ca v)[79]? = (vv_sk[50]?).map (fun q => (v 50, clE (D, v, ca) h0 50 q)) := by
  rw [sk_50]
  rfl
theorem wk_51 (D : va_G) (ca : Nat → ClassId) (v : Nat → Nat) : (WD ca v)[91]? = (vv_sk[51]?).map (fun q => (v 51, clE (D, v, ca) h0 51 q)) := by
  rw [sk_51]
  rfl
theorem wk_52 (D : va_G) (ca : Nat → ClassId) (v : Nat → Nat) : (WD ca v)[97]? = (vv_sk[52]?).map (fun q => (v 52, clE (D, v, ca) h0 52 q)) := by
  rw [sk_52]
  rfl
theorem wk_53 (D : va_G) (ca : Nat → ClassId) (v : Nat → Nat) : (WD ca v)[98]? = (vv_sk[53]?).map (fun q => (v 53, clE (D, v, ca) h0 53 q)) := by
  rw [sk_53]
  rfl
theorem wk_54 (D : va_G) (ca : Nat → ClassId) (v : Nat → Nat) : (WD ca v)[99]? = (vv_sk[54]?).map (fun q => (v 54, clE (D, v, ca) h0 54 q)) := by
  rw [sk_54]
  rfl
theorem wk_55 (D : va_G) (ca : Nat → ClassId) (v : Nat → Nat) : (WD ca v)[100]? = (vv_sk[55]?).map (fun q => (v 55, clE (D, v, ca) h0 55 q)) := by
  rw [sk_55]
  rfl
theorem wk_56 (D : va_G) (ca : Nat → ClassId) (v : Nat → Nat) : (WD ca v)[101]? = (vv_sk[56]?).map (fun q => (v 56, clE (D, v, ca) h0 56 q)) := by
  rw [sk_56]
  rfl
theorem wk_57 (D : va_G) (ca : Nat → ClassId) (v : Nat → Nat) : (WD ca v)[102]? = (vv_sk[57]?).map (fun q => (v 57, clE (D, v, ca) h0 57 q)) := by
  rw [sk_57]
  rfl
theorem wk_58 (D : va_G) (ca : Nat → ClassId) (v : Nat → Nat) : (WD ca v)[103]? = (vv_sk[58]?).map (fun q => (v 58, clE (D, v, ca) h0 58 q)) := by
  rw [sk_58]
  rfl
theorem wk_59 (D : va_G) (ca : Nat → ClassId) (v : Nat → Nat) : (WD ca v)[107]? = (vv_sk[59]?).map (fun q => (v 59, clE (D, v, ca) h0 59 q)) := by
  rw [sk_59]
  rfl
theorem wk_60 (D : va_G) (ca : Nat → ClassId) (v : Nat → Nat) : (WD ca v)[104]? = (vv_sk[60]?).map (fun q => (v 60, clE (D, v, ca) h0 60 q)) := by
  rw [sk_60]
  rfl
theorem wk_61 (D : va_G) (ca : Nat → ClassId) (v : Nat → Nat) : (WD ca v)[105]? = (vv_sk[61]?).map (fun q => (v 61, clE (D, v, ca) h0 61 q)) := by
  rw [sk_61]
  rfl
theorem wk_62 (D : va_G) (ca : Nat → ClassId) (v : Nat → Nat) : (WD ca v)[106]? = (vv_sk[62]?).map (fun q => (v 62, clE (D, v, ca) h0 62 q)) := by
  rw [sk_62]
  rfl
theorem wk_63 (D : va_G) (ca : Nat → ClassId) (v : Nat → Nat) : (WD ca v)[92]? = (vv_sk[63]?).map (fun q => (v 63, clE (D, v, ca) h0 63 q)) := by
  rw [sk_63]
  rfl
theorem wk_64 (D : va_G) (ca : Nat → ClassId) (v : Nat → Nat) : (WD ca v)[93]? = (vv_sk[64]?).map (fun q => (v 64, clE (D, v, ca) h0 64 q)) := by
  rw [sk_64]
  rfl
theorem wk_65 (D : va_G) (ca : Nat → ClassId) (v : Nat → Nat) : (WD ca v)[94]? = (vv_sk[65]?).map (fun q => (v 65, clE (D, v, ca) h0 65 q)) := by
  rw [sk_65]
  rfl
theorem wk_66 (D : va_G) (ca : Nat → ClassId) (v : Nat → Nat) : (WD ca v)[95]? = (vv_sk[66]?).map (fun q => (v 66, clE (D, v, ca) h0 66 q)) := by
  rw [sk_66]
  rfl
theorem wk_67 (D : va_G) (ca : Nat → ClassId) (v : Nat → Nat) : (WD ca v)[96]? = (vv_sk[67]?).map (fun q => (v 67, clE (D, v, ca) h0 67 q)) := by
  rw [sk_67]
  rfl
theorem wk_68 (D : va_G) (ca : Nat → ClassId) (v : Nat → Nat) : (WD ca v)[40]? = (vv_sk[68]?).map (fun q => (v 68, clE (D, v, ca) h0 68 q)) := by
  rw [sk_68]
  rfl
theorem wk_69 (D : va_G) (ca : Nat → ClassId) (v : Nat → Nat) : (WD ca v)[46]? = (vv_sk[69]?).map (fun q => (v 69, clE (D, v, ca) h0 69 q)) := by
  rw [sk_69]
  rfl
theorem wk_70 (D : va_G) (ca : Nat → ClassId) (v : Nat → Nat) : (WD ca v)[47]? = (vv_sk[70]?).map (fun q => (v 70, clE (D, v, ca) h0 70 q)) := by
  rw [sk_70]
  rfl
theorem wk_71 (D : va_G) (ca : Nat → ClassId) (v : Nat → Nat) : (WD ca v)[48]? = (vv_sk[71]?).map (fun q => (v 71, clE (D, v, ca) h0 71 q)) := by
  rw [sk_71]
  rfl
theorem wk_72 (D : va_G) (ca : Nat → ClassId) (v : Nat → Nat) : (WD ca v)[49]? = (vv_sk[72]?).map (fun q => (v 72, clE (D, v, ca) h0 72 q)) := by
  rw [sk_72]
  rfl
theorem wk_73 (D : va_G) (ca : Nat → ClassId) (v : Nat → Nat) : (WD ca v)[50]? = (vv_sk[73]?).map (fun q => (v 73, clE (D, v, ca) h0 73 q)) := by
  rw [sk_73]
  rfl
theorem wk_74 (D : va_G) (ca : Nat → ClassId) (v : Nat → Nat) : (WD ca v)[51]? = (vv_sk[74]?).map (fun q => (v 74, clE (D, v, ca) h0 74 q)) := by
  rw [sk_74]
  rfl
theorem wk_75 (D : va_G) (ca : Nat → ClassId) (v : Nat → Nat) : (WD ca v)[52]? = (vv_sk[75]?).map (fun q => (v 75, clE (D, v, ca) h0 75 q)) := by
  rw [sk_75]
  rfl
theorem wk_76 (D : va_G) (ca : Nat → ClassId) (v : Nat → Nat) : (WD ca v)[56]? = (vv_sk[76]?).map (fun q => (v 76, clE (D, v, ca) h0 76 q)) := by
  rw [sk_76]
  rfl
theorem wk_77 (D : va_G) (ca : Nat → ClassId) (v : Nat → Nat) : (WD ca v)[53]? = (vv_sk[77]?).map (fun q => (v 77, clE (D, v, ca) h0 77 q)) := by
  rw [sk_77]
  rfl
theorem wk_78 (D : va_G) (ca : Nat → ClassId) (v : Nat → Nat) : (WD ca v)[54]? = (vv_sk[78]?).map (fun q => (v 78, clE (D, v, ca) h0 78 q)) := by
  rw [sk_78]
  rfl
theorem wk_79 (D : va_G) (ca : Nat → ClassId) (v : Nat → Nat) : (WD ca v)[55]? = (vv_sk[79]?).map (fun q => (v 79, clE (D, v, ca) h0 79 q)) := by
  rw [sk_79]
  rfl
theorem wk_80 (D : va_G) (ca : Nat → ClassId) (v : Nat → Nat) : (WD ca v)[41]? = (vv_sk[80]?).map (fun q => (v 80, clE (D, v, ca) h0 80 q)) := by
  rw [sk_80]
  rfl
theorem wk_81 (D : va_G) (ca : Nat → ClassId) (v : Nat → Nat) : (WD ca v)[42]? = (vv_sk[81]?).map (fun q => (v 81, clE (D, v, ca) h0 81 q)) := by
  rw [sk_81]
  rfl
theorem wk_82 (D : va_G) (ca : Nat → ClassId) (v : Nat → Nat) : (WD ca v)[43]? = (vv_sk[82]?).map (fun q => (v 82, clE (D, v, ca) h0 82 q)) := by
  rw [sk_82]
  rfl
theorem wk_83 (D : va_G) (ca : Nat → ClassId) (v : Nat → Nat) : (WD ca v)[44]? = (vv_sk[83]?).map (fun q => (v 83, clE (D, v, ca) h0 83 q)) := by
  rw [sk_83]
  rfl
theorem wk_84 (D : va_G) (ca : Nat → ClassId) (v : Nat → Nat) : (WD ca v)[45]? = (vv_sk[84]?).map (fun q => (v 84, clE (D, v, ca) h0 84 q)) := by
  rw [sk_84]
  rfl
theorem wk_85 (D : va_G) (ca : Nat → ClassId) (v : Nat → Nat) : (WD ca v)[0]? = (vv_sk[85]?).map (fun q => (v 85, clE (D, v, ca) h0 85 q)) := by
  rw [sk_85]
  rfl
theorem wk_86 (D : va_G) (ca : Nat → ClassId) (v : Nat → Nat) : (WD ca v)[35]? = (vv_sk[86]?).map (fun q => (v 86, clE (D, v, ca) h0 86 q)) := by
  rw [sk_86]
  rfl
theorem wk_87 (D : va_G) (ca : Nat → ClassId) (v : Nat → Nat) : (WD ca v)[36]? = (vv_sk[87]?).map (fun q => (v 87, clE (D, v, ca) h0 87 q)) := by
  rw [sk_87]
  rfl
theorem wk_88 (D : va_G) (ca : Nat → ClassId) (v : Nat → Nat) : (WD ca v)[37]? = (vv_sk[88]?).map (fun q => (v 88, clE (D, v, ca) h0 88 q)) := by
  rw [sk_88]
  rfl
theorem wk_89 (D : va_G) (ca : Nat → ClassId) (v : Nat → Nat) : (WD ca v)[38]? = (vv_sk[89]?).map (fun q => (v 89, clE (D, v, ca) h0 89 q)) := by
  rw [sk_89]
  rfl
theorem wk_90 (D : va_G) (ca : Nat → ClassId) (v : Nat → Nat) : (WD ca v)[39]? = (vv_sk[90]?).map (fun q => (v 90, clE (D, v, ca) h0 90 q)) := by
  rw [sk_90]
  rfl
theorem wk_91 (D : va_G) (ca : Nat → ClassId) (v : Nat → Nat) : (WD ca v)[57]? = (vv_sk[91]?).map (fun q => (v 91, clE (D, v, ca) h0 91 q)) := by
  rw [sk_91]
  rfl
theorem wk_92 (D : va_G) (ca : Nat → ClassId) (v : Nat → Nat) : (WD ca v)[58]? = (vv_sk[92]?).map (fun q => (v 92, clE (D, v, ca) h0 92 q)) := by
  rw [sk_92]
  rfl
theorem wk_93 (D : va_G) (ca : Nat → ClassId) (v : Nat → Nat) : (WD ca v)[59]? = (vv_sk[93]?).map (fun q => (v 93, clE (D, v, ca) h0 93 q)) := by
  rw [sk_93]
  rfl
theorem wk_94 (D : va_G) (ca : Nat → ClassId) (v : Nat → Nat) : (WD ca v)[60]? = (vv_sk[94]?).map (fun q => (v 94, clE (D, v, ca) h0 94 q)) := by
  rw [sk_94]
  rfl
theorem wk_95 (D : va_G) (ca : Nat → ClassId) (v : Nat → Nat) : (WD ca v)[61]? = (vv_sk[95]?).map (fun q => (v 95, clE (D, v, ca) h0 95 q)) := by
  rw [sk_95]
  rfl
theorem wk_96 (D : va_G) (ca : Nat → ClassId) (v : Nat → Nat) : (WD ca v)[62]? = (vv_sk[96]?).map (fun q => (v 96, clE (D, v, ca) h0 96 q)) := by
  rw [sk_96]
  rfl
theorem wk_97 (D : va_G) (ca : Nat → ClassId) (v : Nat → Nat) : (WD ca v)[63]? = (vv_sk[97]?).map (fun q => (v 97, clE (D, v, ca) h0 97 q)) := by
  rw [sk_97]
  rfl
theorem wk_98 (D : va_G) (ca : Nat → ClassId) (v : Nat → Nat) : (WD ca v)[64]? = (vv_sk[98]?).map (fun q => (v 98, clE (D, v, ca) h0 98 q)) := by
  rw [sk_98]
  rfl
theorem wk_99 (D : va_G) (ca : Nat → ClassId) (v : Nat → Nat) : (WD ca v)[65]? = (vv_sk[99]?).map (fun q => (v 99, clE (D, v, ca) h0 99 q)) := by
  rw [sk_99]
  rfl
theorem wk_100 (D : va_G) (ca : Nat → ClassId) (v : Nat → Nat) : (WD ca v)[66]? = (vv_sk[100]?).map (fun q => (v 100, clE (D, v, ca) h0 100 q)) := by
  rw [sk_100]
  rfl
theorem wk_101 (D : va_G) (ca : Nat → ClassId) (v : Nat → Nat) : (WD ca v)[67]? = (vv_sk[101]?).map (fun q => (v 101, clE (D, v, ca) h0 101 q)) := by
  rw [sk_101]
  rfl
theorem wk_102 (D : va_G) (ca : Nat → ClassId) (v : Nat → Nat) : (WD ca v)[68]? = (vv_sk[102]?).map (fun q => (v 102, clE (D, v, ca) h0 102 q)) := by
  rw [sk_102]
  rfl
theorem wk_103 (D : va_G) (ca : Nat → ClassId) (v : Nat → Nat) : (WD ca v)[69]? = (vv_sk[103]?).map (fun q => (v 103, clE (D, v, ca) h0 103 q)) := by
  rw [sk_103]
  rfl
theorem wk_104 (D : va_G) (ca : Nat → ClassId) (v : Nat → Nat) : (WD ca v)[70]? = (vv_sk[104]?).map (fun q => (v 104, clE (D, v, ca) h0 104 q)) := by
  rw [sk_104]
  rfl
theorem wk_105 (D : va_G) (ca : Nat → ClassId) (v : Nat → Nat) : (WD ca v)[71]? = (vv_sk[105]?).map (fun q => (v 105, clE (D, v, ca) h0 105 q)) := by
  rw [sk_105]
  rfl
theorem wk_106 (D : va_G) (ca : Nat → ClassId) (v : Nat → Nat) : (WD ca v)[72]? = (vv_sk[106]?).map (fun q => (v 106, clE (D, v, ca) h0 106 q)) := by
  rw [sk_106]
  rfl
theorem wk_107 (D : va_G) (ca : Nat → ClassId) (v : Nat → Nat) : (WD ca v)[73]? = (vv_sk[107]?).map (fun q => (v 107, clE (D, v, ca) h0 107 q)) := by
  rw [sk_107]
  rfl
theorem wk_108 (D : va_G) (ca : Nat → ClassId) (v : Nat → Nat) : (WD ca v)[108]? = (vv_sk[108]?).map (fun q => (v 108, clE (D, v, ca) h0 108 q)) := by
  rw [sk_108]
  rfl
theorem wk_109 (D : va_G) (ca : Nat → ClassId) (v : Nat → Nat) : (WD ca v)[109]? = (vv_sk[109]?).map (fun q => (v 109, clE (D, v, ca) h0 109 q)) := by
  rw [sk_109]
  rfl
theorem wk_110 (D : va_G) (ca : Nat → ClassId) (v : Nat → Nat) : (WD ca v)[110]? = (vv_sk[110]?).map (fun q => (v 110, clE (D, v, ca) h0 110 q)) := by
  rw [sk_110]
  rfl
theorem wk_111 (D : va_G) (ca : Nat → ClassId) (v : Nat → Nat) : (WD ca v)[111]? = (vv_sk[111]?).map (fun q => (v 111, clE (D, v, ca) h0 111 q)) := by
  rw [sk_111]
  rfl
theorem wk_112 (D : va_G) (ca : Nat → ClassId) (v : Nat → Nat) : (WD ca v)[112]? = (vv_sk[112]?).map (fun q => (v 112, clE (D, v, ca) h0 112 q)) := by
  rw [sk_112]
  rfl
theorem wk_113 (D : va_G) (ca : Nat → ClassId) (v : Nat → Nat) : (WD ca v)[113]? = (vv_sk[113]?).map (fun q => (v 113, clE (D, v, ca) h0 113 q)) := by
  rw [sk_113]
  rfl
theorem wk_114 (D : va_G) (ca : Nat → ClassId) (v : Nat → Nat) : (WD ca v)[114]? = (vv_sk[114]?).map (fun q => (v 114, clE (D, v, ca) h0 114 q)) := by
  rw [sk_114]
  rfl
theorem wk_115 (D : va_G) (ca : Nat → ClassId) (v : Nat → Nat) : (WD ca v)[115]? = (vv_sk[115]?).map (fun q => (v 115, clE (D, v, ca) h0 115 q)) := by
  rw [sk_115]
  rfl
theorem wk_116 (D : va_G) (ca : Nat → ClassId) (v : Nat → Nat) : (WD ca v)[116]? = (vv_sk[116]?).map (fun q => (v 116, clE (D, v, ca) h0 116 q)) := by
  rw [sk_116]
  show _ = some (v 116, Sum.inr (11, List.mapIdx (fun i sl => rv v (slP h0 116 i sl)) _))
  rw [mI_0]
  rfl
theorem wk_117 (D : va_G) (ca : Nat → ClassId) (v : Nat → Nat) : (WD ca v)[117]? = (vv_sk[117]?).map (fun q => (v 117, clE (D, v, ca) h0 117 q)) := by
  rw [sk_117]
  rfl
theorem wk_118 (D : va_G) (ca : Nat → ClassId) (v : Nat → Nat) : (WD ca v)[118]? = (vv_sk[118]?).map (fun q => (v 118, clE (D, v, ca) h0 118 q)) := by
  rw [sk_118]
  rfl
theorem wk_119 (D : va_G) (ca : Nat → ClassId) (v : Nat → Nat) : (WD ca v)[119]? = (vv_sk[119]?).map (fun q => (v 119, clE (D, v, ca) h0 119 q)) := by
  rw [sk_119]
  rfl
theorem wk_120 (D : va_G) (ca : Nat → ClassId) (v : Nat → Nat) : (WD ca v)[120]? = (vv_sk[120]?).map (fun q => (v 120, clE (D, v, ca) h0 120 q)) := by
  rw [sk_120]
  rfl
theorem wk_121 (D : va_G) (ca : Nat → ClassId) (v : Nat → Nat) : (WD ca v)[121]? = (vv_sk[121]?).map (fun q => (v 121, clE (D, v, ca) h0 121 q)) := by
  rw [sk_121]
  rfl
theorem wk_122 (D : va_G) (ca : Nat → ClassId) (v : Nat → Nat) : (WD ca v)[122]? = (vv_sk[122]?).map (fun q => (v 122, clE (D, v, ca) h0 122 q)) := by
  rw [sk_122]
  rfl
theorem wk_123 (D : va_G) (ca : Nat → ClassId) (v : Nat → Nat) : (WD ca v)[123]? = (vv_sk[123]?).map (fun q => (v 123, clE (D, v, ca) h0 123 q)) := by
  rw [sk_123]
  rfl
theorem wk_124 (D : va_G) (ca : Nat → ClassId) (v : Nat → Nat) : (WD ca v)[124]? = (vv_sk[124]?).map (fun q => (v 124, clE (D, v, ca) h0 124 q)) := by
  rw [sk_124]
  rfl
theorem wk_125 (D : va_G) (ca : Nat → ClassId) (v : Nat → Nat) : (WD ca v)[125]? = (vv_sk[125]?).map (fun q => (v 125, clE (D, v, ca) h0 125 q)) := by
  rw [sk_125]
  rfl
theorem wk_126 (D : va_G) (ca : Nat → ClassId) (v : Nat → Nat) : (WD ca v)[126]? = (vv_sk[126]?).map (fun q => (v 126, clE (D, v, ca) h0 126 q)) := by
  rw [sk_126]
  rfl
theorem wk_127 (D : va_G) (ca : Nat → ClassId) (v : Nat → Nat) : (WD ca v)[127]? = (vv_sk[127]?).map (fun q => (v 127, clE (D, v, ca) h0 127 q)) := by
  rw [sk_127]
  rfl
theorem wk_128 (D : va_G) (ca : Nat → ClassId) (v : Nat → Nat) : (WD ca v)[128]? = (vv_sk[128]?).map (fun q => (v 128, clE (D, v, ca) h0 128 q)) := by
  rw [sk_128]
  rfl
theorem wk_129 (D : va_G) (ca : Nat → ClassId) (v : Nat → Nat) : (WD ca v)[129]? = (vv_sk[129]?).map (fun q => (v 129, clE (D, v, ca) h0 129 q)) := by
  rw [sk_129]
  rfl
theorem wk_130 (D : va_G) (ca : Nat → ClassId) (v : Nat → Nat) : (WD ca v)[130]? = (vv_sk[130]?).map (fun q => (v 130, clE (D, v, ca) h0 130 q)) := by
  rw [sk_130]
  rfl
theorem wk_131 (D : va_G) (ca : Nat → ClassId) (v : Nat → Nat) : (WD ca v)[131]? = (vv_sk[131]?).map (fun q => (v 131, clE (D, v, ca) h0 131 q)) := by
  rw [sk_131]
  rfl
theorem st_all (D : va_G) (ca : Nat → ClassId) (v : Nat → Nat) : ∀ k, k < 132 → (WD ca v)[st_pm.getD k 0]? = (vv_sk[k]?).map (fun q => (v k, clE (D, v, ca) h0 k q)) := by
  intro k hk
  match k, hk with
  | 0, _ => exact wk_0 D ca v
  | 1, _ => exact wk_1 D ca v
  | 2, _ => exact wk_2 D ca v
  | 3, _ => exact wk_3 D ca v
  | 4, _ => exact wk_4 D ca v
  | 5, _ => exact wk_5 D ca v
  | 6, _ => exact wk_6 D ca v
  | 7, _ => exact wk_7 D ca v
  | 8, _ => exact wk_8 D ca v
  | 9, _ => exact wk_9 D ca v
  | 10, _ => exact wk_10 D ca v
  | 11, _ => exact wk_11 D ca v
  | 12, _ => exact wk_12 D ca v
  | 13, _ => exact wk_13 D ca v
  | 14, _ => exact wk_14 D ca v
  | 15, _ => exact wk_15 D ca v
  | 16, _ => exact wk_16 D ca v
  | 17, _ => exact wk_17 D ca v
  | 18, _ => exact wk_18 D ca v
  | 19, _ => exact wk_19 D ca v
  | 20, _ => exact wk_20 D ca v
  | 21, _ => exact wk_21 D ca v
  | 22, _ => exact wk_22 D ca v
  | 23, _ => exact wk_23 D ca v
  | 24, _ => exact wk_24 D ca v
  | 25, _ => exact wk_25 D ca v
  | 26, _ => exact wk_26 D ca v
  | 27, _ => exact wk_27 D ca v
  | 28, _ => exact wk_28 D ca v
  | 29, _ => exact wk_29 D ca v
  | 30, _ => exact wk_30 D ca v
  | 31, _ => exact wk_31 D ca v
  | 32, _ => exact wk_32 D ca v
  | 33, _ => exact wk_33 D ca v
  | 34, _ => exact wk_34 D ca v
  | 35, _ => exact wk_35 D ca v
  | 36, _ => exact wk_36 D ca v
  | 37, _ => exact wk_37 D ca v
  | 38, _ => exact wk_38 D ca v
  | 39, _ => exact wk_39 D ca v
  | 40, _ => exact wk_40 D ca v
  | 41, _ => exact wk_41 D ca v
  | 42, _ => exact wk_42 D ca v
  | 43, _ => exact wk_43 D ca v
  | 44, _ => exact wk_44 D ca v
  | 45, _ => exact wk_45 D ca v
  | 46, _ => exact wk_46 D ca v
  | 47, _ => exact wk_47 D ca v
  | 48, _ => exact wk_48 D ca v
  | 49, _ => exact wk_49 D ca v
  | 50, _ => exact wk_50 D ca v
  | 51, _ => exact wk_51 D ca v
  | 52, _ => exact wk_52 D ca v
  | 53, _ => exact wk_53 D ca v
  | 54, _ => exact wk_54 D ca v
  | 55, _ => exact wk_55 D ca v
  | 56, _ => exact wk_56 D ca v
  | 57, _ => exact wk_57 D ca v
  | 58, _ => exact wk_58 D ca v
  | 59, _ => exact wk_59 D ca v
  | 60, _ => exact wk_60 D ca v
  | 61, _ => exact wk_61 D ca v
  | 62, _ => exact wk_62 D ca v
  | 63, _ => exact wk_63 D ca v
  | 64, _ => exact wk_64 D ca v
  | 65, _ => exact wk_65 D ca v
  | 66, _ => exact wk_66 D ca v
  | 67, _ => exact wk_67 D ca v
  | 68, _ => exact wk_68 D ca v
  | 69, _ => exact wk_69 D ca v
  | 70, _ => exact wk_70 D ca v
  | 71, _ => exact wk_71 D ca v
  | 72, _ => exact wk_72 D ca v
  | 73, _ => exact wk_73 D ca v
  | 74, _ => exact wk_74 D ca v
  | 75, _ => exact wk_75 D ca v
  | 76, _ => exact wk_76 D ca v
  | 77, _ => exact wk_77 D ca v
  | 78, _ => exact wk_78 D ca v
  | 79, _ => exact wk_79 D ca v
  | 80, _ => exact wk_80 D ca v
  | 81, _ => exact wk_81 D ca v
  | 82, _ => exact wk_82 D ca v
  | 83, _ => exact wk_83 D ca v
  | 84, _ => exact wk_84 D ca v
  | 85, _ => exact wk_85 D ca v
  | 86, _ => exact wk_86 D ca v
  | 87, _ => exact wk_87 D ca v
  | 88, _ => exact wk_88 D ca v
  | 89, _ => exact wk_89 D ca v
  | 90, _ => exact wk_90 D ca v
  | 91, _ => exact wk_91 D ca v
  | 92, _ => exact wk_92 D ca v
  | 93, _ => exact wk_93 D ca v
  | 94, _ => exact wk_94 D ca v
  | 95, _ => exact wk_95 D ca v
  | 96, _ => exact wk_96 D ca v
  | 97, _ => exact wk_97 D ca v
  | 98, _ => exact wk_98 D ca v
  | 99, _ => exact wk_99 D ca v
  | 100, _ => exact wk_100 D ca v
  | 101, _ => exact wk_101 D ca v
  | 102, _ => exact wk_102 D ca v
  | 103, _ => exact wk_103 D ca v
  | 104, _ => exact wk_104 D ca v
  | 105, _ => exact wk_105 D ca v
  | 106, _ => exact wk_106 D ca v
  | 107, _ => exact wk_107 D ca v
  | 108, _ => exact wk_108 D ca v
  | 109, _ => exact wk_109 D ca v
  | 110, _ => exact wk_110 D ca v
  | 111, _ => exact wk_111 D ca v
  | 112, _ => exact wk_112 D ca v
  | 113, _ => exact wk_113 D ca v
  | 114, _ => exact wk_114 D ca v
  | 115, _ => exact wk_115 D ca v
  | 116, _ => exact wk_116 D ca v
  | 117, _ => exact wk_117 D ca v
  | 118, _ => exact wk_118 D ca v
  | 119, _ => exact wk_119 D ca v
  | 120, _ => exact wk_120 D ca v
  | 121, _ => exact wk_121 D ca v
  | 122, _ => exact wk_122 D ca v
  | 123, _ => exact wk_123 D ca v
  | 124, _ => exact wk_124 D ca v
  | 125, _ => exact wk_125 D ca v
  | 126, _ => exact wk_126 D ca v
  | 127, _ => exact wk_127 D ca v
  | 128, _ => exact wk_128 D ca v
  | 129, _ => exact wk_129 D ca v
  | 130, _ => exact wk_130 D ca v
  | 131, _ => exact wk_131 D ca v
  | k + 132, h => exact absurd h (by (first | decide +kernel | omega))
set_option maxRecDepth 100000 in
theorem st_wd (ca : Nat → ClassId) (ro : Nat → Nat) (b a0 m0 : Nat) (q1 : Nat) (q18 : Nat) (q35 : Nat) (q36 : Nat) (q37 : Nat) (q38 : Nat) (q59 : Nat) (q63 : Nat) (q65 : Nat) (q68 : Nat) (q2 : Nat) (q3 : Nat) (q4 : Nat) (q5 : Nat) (q6 : Nat) (q7 : Nat) (q8 : Nat) (q9 : Nat) (q10 : Nat) (q11 : Nat) (q12 : Nat) (q13 : Nat) (q14 : Nat) (q15 : Nat) (q16 : Nat) (q17 : Nat) (q19 : Nat) (q20 : Nat) (q21 : Nat) (q22 : Nat) (q23 : Nat) (q24 : Nat) (q25 : Nat) (q26 : Nat) (q27 : Nat) (q28 : Nat) (q29 : Nat) (q30 : Nat) (q31 : Nat) (q32 : Nat) (q33 : Nat) (q34 : Nat) (q69 : Nat) (q86 : Nat) (q39 : Nat) (q40 : Nat) (q41 : Nat) (q42 : Nat) (q43 : Nat) (q44 : Nat) (q45 : Nat) (q46 : Nat) (q47 : Nat) (q48 : Nat) (q49 : Nat) (q50 : Nat) (q51 : Nat) (q52 : Nat) (q53 : Nat) (q54 : Nat) (q55 : Nat) (q56 : Nat) (q57 : Nat) (q58 : Nat) (q60 : Nat) (q61 : Nat) (r62 : Nat → Nat) (q64 : Nat) (q66 : Nat) (q67 : Nat) (q103 : Nat) (q105 : Nat) (q107 : Nat) (q109 : Nat) (q70 : Nat) (q71 : Nat) (q72 : Nat) (q73 : Nat) (q74 : Nat) (q75 : Nat) (q76 : Nat) (q77 : Nat) (q78 : Nat) (q79 : Nat) (q80 : Nat) (q81 : Nat) (q82 : Nat) (q83 : Nat) (q84 : Nat) (q85 : Nat) (q87 : Nat) (q88 : Nat) (q89 : Nat) (q90 : Nat) (q91 : Nat) (q92 : Nat) (q93 : Nat) (q94 : Nat) (q95 : Nat) (q96 : Nat) (q97 : Nat) (q98 : Nat) (q99 : Nat) (q100 : Nat) (q101 : Nat) (q102 : Nat) (q104 : Nat) (q106 : Nat) (q108 : Nat) (q110 : Nat) (n1 : Nat) (n2 : Nat) (n3 : Nat) (n4 : Nat) (n5 : Nat) (n6 : Nat) (n7 : Nat) (n8 : Nat) (n9 : Nat) (n10 : Nat) (n11 : Nat) (n12 : Nat) (n13 : Nat) (n14 : Nat) (n15 : Nat) : ([(a0, .inr (10, [.ref q1, .ref q18, .ref q35, .ref q36, .ref q37, .ref q38, .ref q59, .ref q63, .ref q65, .ref q68, .int 0])), (q1, .inr (1, [.ref q2, .ref q3, .ref q4, .int 0, .int 9])), (q4, .inr (7, [.ref q5, .ref q6, .ref q7, .ref q8, .int 0])), (q5, .inl (ca 0, 8, .inl (fun _ => 0))), (q6, .inl (ca 0, 8, .inl (fun _ => 0))), (q7, .inl (ca 0, 8, .inl (fun _ => 0))), (q8, .inl (ca 0, 8, .inl (fun _ => 0))), (q2, .inr (2, [.int 3, .int 3, .int 1, .int 10, .ref q9, .ref q10, .ref q11, .ref q12, .ref q13])), (q9, .inl (ca 0, 16, .inl (fun _ => 0))), (q10, .inl (ca 0, 16, .inl (fun _ => 0))), (q11, .inl (ca 0, 16, .inl (fun _ => 5))), (q12, .inl (ca 0, 16, .inl (fun _ => (-4)))), (q13, .inl (ca 0, 16, .inl (fun _ => 0))), (q3, .inr (3, [.ref q14, .ref q15, .ref q16, .ref q17, .int 0])), (q15, .inl (ca 0, 8, .inl (fun _ => 0))), (q16, .inl (ca 0, 8, .inl (fun _ => 0))), (q17, .inl (ca 0, 8, .inl (fun _ => 0))), (q14, .inl (ca 0, 4, .inl (fun _ => 0))), (q18, .inr (1, [.ref q19, .ref q20, .ref q21, .int 0, .int 9])), (q21, .inr (7, [.ref q22, .ref q23, .ref q24, .ref q25, .int 0])), (q22, .inl (ca 0, 8, .inl (fun _ => 0))), (q23, .inl (ca 0, 8, .inl (fun _ => 0))), (q24, .inl (ca 0, 8, .inl (fun _ => 0))), (q25, .inl (ca 0, 8, .inl (fun _ => 0))), (q19, .inr (2, [.int 3, .int 3, .int 1, .int 10, .ref q26, .ref q27, .ref q28, .ref q29, .ref q30])), (q26, .inl (ca 0, 16, .inl (fun _ => 0))), (q27, .inl (ca 0, 16, .inl (fun _ => 0))), (q28, .inl (ca 0, 16, .inl (fun _ => 5))), (q29, .inl (ca 0, 16, .inl (fun _ => (-4)))), (q30, .inl (ca 0, 16, .inl (fun _ => 0))), (q20, .inr (3, [.ref q31, .ref q32, .ref q33, .ref q34, .int 0])), (q32, .inl (ca 0, 8, .inl (fun _ => 0))), (q33, .inl (ca 0, 8, .inl (fun _ => 0))), (q34, .inl (ca 0, 8, .inl (fun _ => 0))), (q31, .inl (ca 0, 4, .inl (fun _ => 0))), (q35, .inl (ca 3, 2, .inr (.inr (.inr (.inr (fun j => (([34, 51] : List Nat)[j]?).map (adOf [q1, q2, q9, q10, q11, q12, q13, q3, q14, q15, q16, q17, q4, q5, q6, q7, q8, q18, q19, q26, q27, q28, q29, q30, q20, q31, q32, q33, q34, q21, q22, q23, q24, q25, q69, q70, q77, q78, q79, q80, q81, q71, q82, q83, q84, q85, q72, q73, q74, q75, q76, q86, q87, q94, q95, q96, q97, q98, q88, q99, q100, q101, q102, q89, q90, q91, q92, q93, q39, q43, q50, q51, q52, q53, q54, q44, q55, q56, q57, q58, q45, q46, q47, q48, q49, a0, q35, q36, q37, q38, q42, q40, q41, q59, q60, (r62 0), (r62 1), (r62 2), (r62 3), (r62 4), (r62 5), q61, q63, q64, q65, q66, q67, q68, q103, q104, q105, q106, q107, q108, q109, q110, m0, n1, n2, n3, n4, n5, n6, n7, n8, n9, n10, n11, n12, n13, n14, n15] ro b))))))), (q36, .inl (ca 2, 2, .inl (fun _ => 0))), (q37, .inr (5, [.ref q38, .ref q39, .ref q40, .ref q41, .int 0, .int 0, .int 0])), (q38, .inr (8, [.ref q42, .int 0, .int 0, .int 0, .int 0, .int 0])), (q42, .inl (ca 1, 160, .inl (fun _ => 0))), (q39, .inr (1, [.ref q43, .ref q44, .ref q45, .int 0, .int 9])), (q45, .inr (7, [.ref q46, .ref q47, .ref q48, .ref q49, .int 0])), (q46, .inl (ca 0, 8, .inl (fun _ => 0))), (q47, .inl (ca 0, 8, .inl (fun _ => 0))), (q48, .inl (ca 0, 8, .inl (fun _ => 0))), (q49, .inl (ca 0, 8, .inl (fun _ => 0))), (q43, .inr (2, [.int 3, .int 3, .int 1, .int 10, .ref q50, .ref q51, .ref q52, .ref q53, .ref q54])), (q50, .inl (ca 0, 16, .inl (fun _ => 0))), (q51, .inl (ca 0, 16, .inl (fun _ => 0))), (q52, .inl (ca 0, 16, .inl (fun _ => 5))), (q53, .inl (ca 0, 16, .inl (fun _ => (-4)))), (q54, .inl (ca 0, 16, .inl (fun _ => 0))), (q44, .inr (3, [.ref q55, .ref q56, .ref q57, .ref q58, .int 0])), (q56, .inl (ca 0, 8, .inl (fun _ => 0))), (q57, .inl (ca 0, 8, .inl (fun _ => 0))), (q58, .inl (ca 0, 8, .inl (fun _ => 0))), (q55, .inl (ca 0, 4, .inl (fun _ => 0))), (q40, .inl (ca 0, 3, .inl (fun _ => 0))), (q41, .inl (ca 0, 10, .inl (fun _ => 0))), (q59, .inr (9, [.ref q60, .ref q61])), (q60, .inl (ca 5, 6, .inr (.inr (.inr (.inr (fun j => (([95, 96, 97, 98, 99, 100] : List Nat)[j]?).map (adOf [q1, q2, q9, q10, q11, q12, q13, q3, q14, q15, q16, q17, q4, q5, q6, q7, q8, q18, q19, q26, q27, q28, q29, q30, q20, q31, q32, q33, q34, q21, q22, q23, q24, q25, q69, q70, q77, q78, q79, q80, q81, q71, q82, q83, q84, q85, q72, q73, q74, q75, q76, q86, q87, q94, q95, q96, q97, q98, q88, q99, q100, q101, q102, q89, q90, q91, q92, q93, q39, q43, q50, q51, q52, q53, q54, q44, q55, q56, q57, q58, q45, q46, q47, q48, q49, a0, q35, q36, q37, q38, q42, q40, q41, q59, q60, (r62 0), (r62 1), (r62 2), (r62 3), (r62 4), (r62 5), q61, q63, q64, q65, q66, q67, q68, q103, q104, q105, q106, q107, q108, q109, q110, m0, n1, n2, n3, n4, n5, n6, n7, n8, n9, n10, n11, n12, n13, n14, n15] ro b))))))), ((r62 0), .inl (ca 0, 16, .inl (fun _ => 0))), ((r62 1), .inl (ca 0, 16, .inl (fun _ => 0))), ((r62 2), .inl (ca 0, 16, .inl (fun _ => 0))), ((r62 3), .inl (ca 0, 16, .inl (fun _ => 0))), ((r62 4), .inl (ca 0, 16, .inl (fun _ => 0))), ((r62 5), .inl (ca 0, 16, .inl (fun _ => 0))), (q61, .inl (ca 0, 6, .inl (fun _ => 0))), (q63, .inr (4, [.ref q64, .int 0, .int 0])), (q64, .inl (ca 0, 4, .inl (fun _ => 0))), (q65, .inr (0, [.ref q66, .int 0, .ref q67, .int 0, .int 0, .int 0, .int 0, .int 0])), (q66, .inl (ca 0, 48, .inl (fun _ => 0))), (q67, .inl (ca 0, 10, .inl (fun _ => 0))), (q68, .inl (ca 4, 4, .inr (.inr (.inr (.inr (fun j => (([108, 110, 112, 114] : List Nat)[j]?).map (adOf [q1, q2, q9, q10, q11, q12, q13, q3, q14, q15, q16, q17, q4, q5, q6, q7, q8, q18, q19, q26, q27, q28, q29, q30, q20, q31, q32, q33, q34, q21, q22, q23, q24, q25, q69, q70, q77, q78, q79, q80, q81, q71, q82, q83, q84, q85, q72, q73, q74, q75, q76, q86, q87, q94, q95, q96, q97, q98, q88, q99, q100, q101, q102, q89, q90, q91, q92, q93, q39, q43, q50, q51, q52, q53, q54, q44, q55, q56, q57, q58, q45, q46, q47, q48, q49, a0, q35, q36, q37, q38, q42, q40, q41, q59, q60, (r62 0), (r62 1), (r62 2), (r62 3), (r62 4), (r62 5), q61, q63, q64, q65, q66, q67, q68, q103, q104, q105, q106, q107, q108, q109, q110, m0, n1, n2, n3, n4, n5, n6, n7, n8, n9, n10, n11, n12, n13, n14, n15] ro b))))))), (q69, .inr (1, [.ref q70, .ref q71, .ref q72, .int 0, .int 9])), (q72, .inr (7, [.ref q73, .ref q74, .ref q75, .ref q76, .int 0])), (q73, .inl (ca 0, 8, .inl (fun _ => 0))), (q74, .inl (ca 0, 8, .inl (fun _ => 0))), (q75, .inl (ca 0, 8, .inl (fun _ => 0))), (q76, .inl (ca 0, 8, .inl (fun _ => 0))), (q70, .inr (2, [.int 3, .int 3, .int 1, .int 10, .ref q77, .ref q78, .ref q79, .ref q80, .ref q81])), (q77, .inl (ca 0, 16, .inl (fun _ => 0))), (q78, .inl (ca 0, 16, .inl (fun _ => 0))), (q79, .inl (ca 0, 16, .inl (fun _ => 5))), (q80, .inl (ca 0, 16, .inl (fun _ => (-4)))), (q81, .inl (ca 0, 16, .inl (fun _ => 0))), (q71, .inr (3, [.ref q82, .ref q83, .ref q84, .ref q85, .int 0])), (q83, .inl (ca 0, 8, .inl (fun _ => 0))), (q84, .inl (ca 0, 8, .inl (fun _ => 0))), (q85, .inl (ca 0, 8, .inl (fun _ => 0))), (q82, .inl (ca 0, 4, .inl (fun _ => 0))), (q86, .inr (1, [.ref q87, .ref q88, .ref q89, .int 0, .int 9])), (q89, .inr (7, [.ref q90, .ref q91, .ref q92, .ref q93, .int 0])), (q90, .inl (ca 0, 8, .inl (fun _ => 0))), (q91, .inl (ca 0, 8, .inl (fun _ => 0))), (q92, .inl (ca 0, 8, .inl (fun _ => 0))), (q93, .inl (ca 0, 8, .inl (fun _ => 0))), (q87, .inr (2, [.int 3, .int 3, .int 1, .int 10, .ref q94, .ref q95, .ref q96, .ref q97, .ref q98])), (q94, .inl (ca 0, 16, .inl (fun _ => 0))), (q95, .inl (ca 0, 16, .inl (fun _ => 0))), (q96, .inl (ca 0, 16, .inl (fun _ => 5))), (q97, .inl (ca 0, 16, .inl (fun _ => (-4)))), (q98, .inl (ca 0, 16, .inl (fun _ => 0))), (q88, .inr (3, [.ref q99, .ref q100, .ref q101, .ref q102, .int 0])), (q100, .inl (ca 0, 8, .inl (fun _ => 0))), (q101, .inl (ca 0, 8, .inl (fun _ => 0))), (q102, .inl (ca 0, 8, .inl (fun _ => 0))), (q99, .inl (ca 0, 4, .inl (fun _ => 0))), (q103, .inr (6, [.ref q104, .int (-1), .int 0])), (q104, .inl (ca 0, 40, .inl (fun _ => 0))), (q105, .inr (6, [.ref q106, .int (-1), .int 0])), (q106, .inl (ca 0, 40, .inl (fun _ => 0))), (q107, .inr (6, [.ref q108, .int (-1), .int 0])), (q108, .inl (ca 0, 40, .inl (fun _ => 0))), (q109, .inr (6, [.ref q110, .int (-1), .int 0])), (q110, .inl (ca 0, 40, .inl (fun _ => 0)))] ++ [(m0, .inr (11, [.ref n1, .ref n2, .int 3, .int 3, .int 1, .int 10, .ref n3, .int 3, .int 3, .int 1, .int 10, .int 0, .ref n4, .int (-4), .ref n5, .int 0, .int 0, .int 0, .int 0, .int 0, .int 0, .int 0, .ref n6, .ref n7, .ref n8, .int 0, .long 0, .ref n9, .int 0, .ref n10, .int 0, .ref n11, .ref n12, .ref n13, .ref n14, .int 0, .ref n15])), (n1, .inl (ca 0, 432, .inl (fun i => if i < 144 then dr0 i else 0))), (n2, .inl (ca 2, 2, .inl (fun _ => 0))), (n3, .inl (ca 0, 144, .inl dr0)), (n4, .inl (ca 0, 6, .inl (fun _ => 0))), (n5, .inl (ca 0, 160, .inl (fun _ => 0))), (n6, .inl (ca 0, 128, .inl (fun _ => 0))), (n7, .inl (ca 0, 4, .inl (fun _ => 0))), (n8, .inl (ca 0, 4, .inl (fun _ => 0))), (n9, .inl (ca 0, 48, .inl (fun _ => 0))), (n10, .inl (ca 0, 4, .inl (fun _ => 0))), (n11, .inl (ca 0, 16, .inl (fun _ => 0))), (n12, .inl (ca 0, 4, .inl (fun _ => -4))), (n13, .inl (ca 0, 4, .inl (fun _ => 0))), (n14, .inl (ca 0, 160, .inl (fun _ => 0))), (n15, .inl (ca 0, 20, .inl (fun _ => 0)))] : va_W) = WD ca (adOf [q1, q2, q9, q10, q11, q12, q13, q3, q14, q15, q16, q17, q4, q5, q6, q7, q8, q18, q19, q26, q27, q28, q29, q30, q20, q31, q32, q33, q34, q21, q22, q23, q24, q25, q69, q70, q77, q78, q79, q80, q81, q71, q82, q83, q84, q85, q72, q73, q74, q75, q76, q86, q87, q94, q95, q96, q97, q98, q88, q99, q100, q101, q102, q89, q90, q91, q92, q93, q39, q43, q50, q51, q52, q53, q54, q44, q55, q56, q57, q58, q45, q46, q47, q48, q49, a0, q35, q36, q37, q38, q42, q40, q41, q59, q60, (r62 0), (r62 1), (r62 2), (r62 3), (r62 4), (r62 5), q61, q63, q64, q65, q66, q67, q68, q103, q104, q105, q106, q107, q108, q109, q110, m0, n1, n2, n3, n4, n5, n6, n7, n8, n9, n10, n11, n12, n13, n14, n15] ro b) := rfl
end
section
theorem ja_h0c : (List.range 13).all (fun k => (List.range 16).all (fun i => match dof (68 + k) i with | none => true | some d => decide (h0.1 k i = h0.1 (mK d) (mJ 0 d)))) = true := by decide +kernel
theorem JA_h0 : JA h0 := by
  refine ⟨⟨fun k i d hd _ => ?_, fun i _ hc => ?_, fun i _ hc => ?_⟩, ⟨rfl, rfl⟩, fun q => absurd rfl q, fun q => absurd rfl q⟩
  · have a := dof_k hd
    have b := (dof_c hd).1
    have hi : i < 16 := by unfold cpl at b; omega
    have h1 := List.all_eq_true.mp ja_h0c k (List.mem_range.mpr (by (first | decide +kernel | omega)))
    have h2 : (match dof (68 + k) i with | none => true | some d => decide (h0.1 k i = h0.1 (mK d) (mJ 0 d))) = true := List.all_eq_true.mp h1 i (List.mem_range.mpr hi)
    rw [hd] at h2
    rw [Nat.zero_add]
    exact of_decide_eq_true h2
  · have e : (h0.1 (0 + 7) 4).toInt = 0 := by decide +kernel
    rw [e] at hc
    omega
  · have e : (h0.1 (0 + 12) 4).toInt = 0 := by decide +kernel
    rw [e] at hc
    omega
end
section
theorem jb_h0a : (List.range 16).all (fun i => decide (h0.1 2 i = h0.1 117 i) && decide (0 ≤ (h0.1 2 i).toInt) && decide (h0.1 6 i = h0.1 117 (64 + i))) = true := by decide +kernel
theorem jb_h0b : (List.range 4).all (fun i => decide (h0.1 8 i = h0.1 117 (80 + i))) = true := by decide +kernel
theorem JB_h0 : JB h0 := by
  refine ⟨⟨fun i hi => ?_, fun i hi => ?_, fun i hi => ?_⟩, fun q => absurd rfl q, fun q => absurd rfl q⟩
  · have h1 := List.all_eq_true.mp jb_h0a i (List.mem_range.mpr hi)
    rw [Bool.and_eq_true, Bool.and_eq_true] at h1
    rw [Nat.zero_add, Nat.zero_add]
    exact ⟨of_decide_eq_true h1.1.1, of_decide_eq_true h1.1.2⟩
  · have h1 := List.all_eq_true.mp jb_h0a i (List.mem_range.mpr hi)
    rw [Bool.and_eq_true, Bool.and_eq_true] at h1
    rw [Nat.zero_add, Nat.zero_add]
    exact of_decide_eq_true h1.2
  · have h1 := List.all_eq_true.mp jb_h0b i (List.mem_range.mpr hi)
    rw [Nat.zero_add, Nat.zero_add]
    exact of_decide_eq_true h1
theorem js_h0a : (List.range 4).all (fun j => decide ((h0.1 (108 + 2 * j) 1).toInt = -1) && decide ((h0.1 128 j).toInt = -4) && decide (h0.1 (108 + 2 * j) 2 = h0.1 129 j) && (List.range 40).all (fun i => decide (h0.1 (109 + 2 * j) i = h0.1 130 (40 * j + i)))) = true := by decide +kernel
theorem JS_h0 : JS h0 := fun j hj => by
  have h1 := List.all_eq_true.mp js_h0a j (List.mem_range.mpr hj)
  rw [Bool.and_eq_true, Bool.and_eq_true, Bool.and_eq_true] at h1
  exact ⟨Or.inl ⟨of_decide_eq_true h1.1.1.1, of_decide_eq_true h1.1.1.2⟩, of_decide_eq_true h1.1.2, fun i hi => of_decide_eq_true (List.all_eq_true.mp h1.2 i (List.mem_range.mpr hi))⟩
end
section
theorem jr_h0a : (List.range 16).all (fun i => decide (0 ≤ (h0.1 3 i).toInt ∧ (h0.1 3 i).toInt ≤ 1) && decide (0 ≤ (h0.1 6 i).toInt ∧ (h0.1 6 i).toInt ≤ 9)) = true := by decide +kernel
theorem jr_h0b : (List.range 4).all (fun i => decide (0 ≤ (h0.1 8 i).toInt ∧ (h0.1 8 i).toInt ≤ 999)) = true := by decide +kernel
theorem JR_h0 : JR h0 := by
  refine ⟨⟨fun i hi => ?_, fun i hi => ?_, fun i hi => ?_, ?_, ?_, fun i hi hc => ?_, fun i hi hc => ?_⟩, fun q => absurd rfl q, fun q => absurd rfl q⟩
  · have h1 := List.all_eq_true.mp jr_h0a i (List.mem_range.mpr hi)
    rw [Bool.and_eq_true] at h1
    rw [Nat.zero_add]
    exact of_decide_eq_true h1.1
  · have h1 := List.all_eq_true.mp jr_h0a i (List.mem_range.mpr hi)
    rw [Bool.and_eq_true] at h1
    rw [Nat.zero_add]
    exact of_decide_eq_true h1.2
  · have h1 := List.all_eq_true.mp jr_h0b i (List.mem_range.mpr hi)
    rw [Nat.zero_add]
    exact of_decide_eq_true h1
  · decide +kernel
  · decide +kernel
  · have e : (h0.1 (0 + 7) 4).toInt = 0 := by decide +kernel
    rw [e] at hc
    omega
  · have e : (h0.1 (0 + 12) 4).toInt = 0 := by decide +kernel
    rw [e] at hc
    omega
end
section
theorem dl_0 : decode code 0 = .ok (.new 7, 3) := dc_187 (a := 0) (b := 7) (dcc (r := 0) lq_0 rfl (Nat.le_of_ble_eq_true rfl) (by decide +kernel)) rfl
theorem dl_3 : decode code 3 = .ok (.dup, 1) := dc_89 (dcc (r := 3) lq_0 rfl (Nat.le_of_ble_eq_true rfl) (by decide +kernel))
theorem dl_4 : decode code 4 = .ok (.invokespecial 9, 3) := dc_183 (a := 0) (b := 9) (dcc (r := 4) lq_0 rfl (Nat.le_of_ble_eq_true rfl) (by decide +kernel)) rfl
theorem dl_7 : decode code 7 = .ok (.astore_n 1, 1) := dc_76 (dcc (r := 7) lq_0 rfl (Nat.le_of_ble_eq_true rfl) (by decide +kernel))
theorem dl_8 : decode code 8 = .ok (.new 10, 3) := dc_187 (a := 0) (b := 10) (dcc (r := 8) lq_0 rfl (Nat.le_of_ble_eq_true rfl) (by decide +kernel)) rfl
theorem dl_11 : decode code 11 = .ok (.dup, 1) := dc_89 (dcc (r := 11) lq_0 rfl (Nat.le_of_ble_eq_true rfl) (by decide +kernel))
theorem dl_12 : decode code 12 = .ok (.invokespecial 12, 3) := dc_183 (a := 0) (b := 12) (dcc (r := 12) lq_0 rfl (Nat.le_of_ble_eq_true rfl) (by decide +kernel)) rfl
theorem dl_15 : decode code 15 = .ok (.astore_n 2, 1) := dc_77 (dcc (r := 15) lq_0 rfl (Nat.le_of_ble_eq_true rfl) (by decide +kernel))
theorem dl_16 : decode code 16 = .ok (.iconst 0, 1) := dc_3 (dcc (r := 16) lq_0 rfl (Nat.le_of_ble_eq_true rfl) (by decide +kernel))
theorem dl_17 : decode code 17 = .ok (.istore_n 3, 1) := dc_62 (dcc (r := 17) lq_0 rfl (Nat.le_of_ble_eq_true rfl) (by decide +kernel))
theorem cb_Rod_init : CB y_Rod_init b_Rod_init 2 none 0 := ⟨vv_Gin (List.mem_append_right _ (List.mem_append_left _ (List.mem_of_getElem? (i := 25) rfl))) rfl, by decide +kernel, vv_Gin (List.mem_append_right _ (List.mem_append_left _ (List.mem_of_getElem? (i := 1) rfl))) rfl⟩
theorem im_Rod_init : Cond.instanceMethod y_Rod_init ∈ vv_G := vv_Gin (List.mem_append_right _ (List.mem_append_left _ (List.mem_of_getElem? (i := 24) rfl))) rfl
theorem cb_Mod_init : CB y_Mod_init b_Mod_init 2 none 0 := ⟨vv_Gin (List.mem_append_right _ (List.mem_append_right _ (List.mem_append_right _ (List.mem_append_right _ (List.mem_append_left _ (List.mem_of_getElem? (i := 213) rfl)))))) rfl, by decide +kernel, vv_Gin (List.mem_append_right _ (List.mem_append_left _ (List.mem_of_getElem? (i := 13) rfl))) rfl⟩
theorem im_Mod_init : Cond.instanceMethod y_Mod_init ∈ vv_G := vv_Gin (List.mem_append_right _ (List.mem_append_right _ (List.mem_append_right _ (List.mem_append_right _ (List.mem_append_left _ (List.mem_of_getElem? (i := 212) rfl)))))) rfl
theorem wi_Rod : Cond.instantiable R_Rod 11 ∈ vv_G := vv_Gin (List.mem_append_right _ (List.mem_append_left _ (List.mem_of_getElem? (i := 22) (by decide +kernel)))) (by decide +kernel)
theorem wn_Rod : Cond.initialized R_Rod ∈ vv_G := vv_Gin (List.mem_append_right _ (List.mem_append_left _ (List.mem_of_getElem? (i := 1) (by decide +kernel)))) (by decide +kernel)
theorem wi_Mod : Cond.instantiable R_Mod 37 ∈ vv_G := vv_Gin (List.mem_append_right _ (List.mem_append_right _ (List.mem_append_right _ (List.mem_append_right _ (List.mem_append_left _ (List.mem_of_getElem? (i := 210) (by decide +kernel))))))) (by decide +kernel)
theorem wn_Mod : Cond.initialized R_Mod ∈ vv_G := vv_Gin (List.mem_append_right _ (List.mem_append_left _ (List.mem_of_getElem? (i := 13) (by decide +kernel)))) (by decide +kernel)
theorem ck_law_9 : CI R_law 9 y_Rod_init b_Rod_init 2 0 := ⟨cb_Rod_init, rfl, im_Rod_init, Or.inl (vv_Gin (List.mem_append_right _ (List.mem_append_left _ (List.mem_of_getElem? (i := 23) rfl))) rfl)⟩
theorem ck_law_12 : CI R_law 12 y_Mod_init b_Mod_init 2 0 := ⟨cb_Mod_init, rfl, im_Mod_init, Or.inl (vv_Gin (List.mem_append_right _ (List.mem_append_right _ (List.mem_append_right _ (List.mem_append_right _ (List.mem_append_left _ (List.mem_of_getElem? (i := 211) rfl)))))) rfl)⟩
theorem wk_law_R : Cond.classLink R_law 7 R_Rod ∈ vv_G := vv_Gin (List.mem_append_right _ (List.mem_append_left _ (List.mem_of_getElem? (i := 21) (by decide +kernel)))) (by decide +kernel)
theorem wk_law_M : Cond.classLink R_law 10 R_Mod ∈ vv_G := vv_Gin (List.mem_append_right _ (List.mem_append_right _ (List.mem_append_right _ (List.mem_append_right _ (List.mem_append_left _ (List.mem_of_getElem? (i := 209) (by decide +kernel))))))) (by decide +kernel)
theorem wd_law_R : ∀ j, j < 11 → defaultValue (t_Rod j) = vp_V [.null, .null, .null, .null, .null, .null, .null, .null, .null, .null, .int 0] j := by decide
theorem wd_law_M : ∀ j, j < 37 → defaultValue (t_Mod j) = vp_V [.null, .null, .int 0, .int 0, .int 0, .int 0, .null, .int 0, .int 0, .int 0, .int 0, .int 0, .null, .int 0, .null, .int 0, .int 0, .int 0, .int 0, .int 0, .int 0, .int 0, .null, .null, .null, .int 0, .long 0, .null, .int 0, .null, .int 0, .null, .null, .null, .null, .int 0, .null] j := by decide
theorem nd_of : ∀ l : List Nat, l.Nodup → va_nd l = true := by
  intro l
  induction l with
  | nil => intro _; rfl
  | cons a l ih =>
    intro h
    have h2 := List.nodup_cons.mp h
    show (decide (a ∉ l) && va_nd l) = true
    rw [ih h2.2, decide_eq_true h2.1]
    rfl
theorem nd_range (n : Nat) : va_nd (List.range n) = true := nd_of _ List.nodup_range
section LZN
variable {p : Program} {l : Launch} {e : Env} {s : State} {m : MethodId} {args : Array Value} {below : List Frame} {meth : Method} {c : Code} {A : Nat → Prop} {H : Heap} {locs : List Loc} {lsA : Array Slot} {Q : State → Prop}
/-- 'new', 'dup', the constructor: one object more -/
theorem lz_new {D : va_G} {ca : Nat → ClassId} {ws : va_W} {cl sl pc idx idx2 ci N nL' F' L' C' S' : Nat} {Cn : String} {T : u_T} {fs : List Value} {y : MethodName} {cc' : ByteArray} {post : Nat → va_W → Prop} (hx : p.tables.exec = Jvm.exec) (hcc : c.code = code) (hml : c.maxLocals = 4) (hown : s.vm.findClass R_law = some m.cls) (hts : ∀ w ∈ vv_G, w.before args s = true) (hK : va_K D classes (tysC ca) s) (hKw : Kw s) (hA : ∀ q : Nat, s.heap.size ≤ q → A q)
    (ty : Nat → FieldType) (hc : classes[ci]? = some (Cn, T, N)) (hin : ∀ w ∈ u_ws Cn T N, w ∈ vv_G) (hty : ∀ k, k < N → parseFieldDescriptor (T k).2.2.1 = some (ty k)) (hw : Cond.classLink R_law idx Cn ∈ vv_G) (h1 : Cond.instantiable Cn N ∈ vv_G) (h2 : Cond.initialized Cn ∈ vv_G) (hfs : ∀ j, j < N → defaultValue (ty j) = vp_V fs j) (d0 : decode code pc = .ok (.new idx, 3)) (d1 : decode code (pc + 3) = .ok (.dup, 1)) (d2 : decode code (pc + 3 + 1) = .ok (.invokespecial idx2, 3)) (ck : CI R_law idx2 y cc' nL' 0) (ct : ∀ a : Nat, Cu y cc' nL' F' L' C' S' D ca [.ref a] [(a, .inr (ci, fs))] (post a)) (hF : F' + 1 ≤ 13) (hL : 8 + (nL' + 11) + L' ≤ 470) (hCc : cl + 1 + C' ≤ 600000) (hSs : sl + N + S' ≤ 7302250)
    (hP : va_P D classes ws H) (hD : va_D A ws) (hS : va_S A s.heap H locs) (hsz : lsA.size = 4)
    (kk : ∀ (a : Nat) (w1 : va_W) (H1 : Heap) (locs1 : List Loc), post a w1 → va_P D classes (ws ++ w1) H1 → va_D A (ws ++ w1) → va_S A s.heap H1 locs1 → W p l e room_1 s m args below meth c H1 locs1 (cl + 1 + C') (sl + N + S') Q (F0 m (pc + 3 + 1 + 3) lsA [.ref a])) : W p l e room_1 s m args below meth c H locs cl sl Q (F0 m pc lsA []) := by
  obtain ⟨⟨q1, q2, q3⟩, q4, q5, q6⟩ := ck
  refine va_new (D := D) (ci := ci) (fs := fs) hx hcc hts hin ty hty hown (hts _ hw) (hts _ h1) (hts _ h2) hK hP hD hS hA hc hfs (by show cl + 1 ≤ 600000; omega) (by show sl + N ≤ 7302250; omega) d0 (fun a H1 hP1 hD1 hS1 => ?_)
  refine lv_dup hx hcc d1 rfl ?_
  have hPa : va_P D classes [(a, .inr (ci, fs))] H1 := fun k q hk => by
    have h0 : k < 1 := (List.getElem?_eq_some_iff.mp hk).1
    rw [show k = 0 by (first | decide +kernel | omega)] at hk
    cases hk
    exact hP1 ws.length (a, .inr (ci, fs)) (by rw [List.getElem?_append_right (Nat.le_refl _), Nat.sub_self]; rfl)
  have hDa : va_D (fun _ => True) [(a, (.inr (ci, fs) : va_E))] := ⟨fun i j x z hi hj _ => by
      have hi' : i < 1 := (List.getElem?_eq_some_iff.mp hi).1
      have hj' : j < 1 := (List.getElem?_eq_some_iff.mp hj).1
      omega, fun _ _ _ => trivial⟩
  have hpre : FrameBlind (va_Pc [Value.ref a] (fun U => U.heap.size = H1.size ∧ va_P D classes [(a, .inr (ci, fs))] U.heap ∧ va_K D classes (tysC ca) U ∧ va_D (fun _ => True) [(a, .inr (ci, fs))] ∧ Kw U)) ∧ ∀ U : State, U.heap = H1 → s.WarmedH U.vm → va_Pc [Value.ref a] (fun U => U.heap.size = H1.size ∧ va_P D classes [(a, .inr (ci, fs))] U.heap ∧ va_K D classes (tysC ca) U ∧ va_D (fun _ => True) [(a, .inr (ci, fs))] ∧ Kw U) [Value.ref a].toArray U := by
    refine ⟨fun a' U g mk q => ?_, fun U hU hW => ⟨rfl, ?_⟩⟩
    · obtain ⟨q0, q1, qP, qK, qA, qR⟩ := q
      exact ⟨q0, q1, qP, va_K.moved (u := U) (U := U.calling g mk a') (Vm.Alike.refl U.vm) qK, qA, Kw.blind g mk a' qR⟩
    · exact ⟨by rw [hU], by rw [hU]; exact hPa, va_K.moved hW.alike hK, hDa, Kw.to hW hKw⟩
  have q6 : Cond.methodLink R_law idx2 y ∈ vv_G := by
    rcases q6 with q6 | q6
    · exact q6
    · have hn : R_law ∈ kNest.map (fun q => q.1) := List.mem_map_of_mem (f := fun q => q.1) q6
      exact absurd hn (by decide +kernel)
  have hr := va_runI (R := room_1) (e := e) (below := below) (meth := meth) (locs := locs) (cells := cl + 1) (slots := sl + N) (mc := C') (ms := S') (Ts := vv_G) (As := []) (b := a) (n := 0) (rest := [.ref a]) (g := F0 m (pc + 3 + 1) lsA [.ref a, .ref a]) ⟨hx, hcc, hml, hown, hts⟩ (ct a l H1.size) ⟨callB_of 0 hts (vv_good q1) rfl rfl rfl (hts _ q3) (hts _ q6) q2 ⟨hF, hL⟩, q4, hts _ q5⟩ hpre rfl rfl hsz rfl (Nat.le_of_ble_eq_true rfl) d2 ⟨hCc, hSs⟩
  have hC1 : [ws.length].map (fun i => (ws ++ [(a, (.inr (ci, fs) : va_E))])[i]?) = [(a, (.inr (ci, fs) : va_E))].map some := by
    show [(ws ++ [(a, (.inr (ci, fs) : va_E))])[ws.length]?] = _
    rw [List.getElem?_append_right (Nat.le_refl _), Nat.sub_self]
    rfl
  have hR1 : (List.range ws.length).map (fun i => (ws ++ [(a, (.inr (ci, fs) : va_E))])[i]?) = ws.map some := by
    apply List.ext_getElem?
    intro i
    rw [List.getElem?_map, List.getElem?_map]
    by_cases hi : i < ws.length
    · rw [List.getElem?_range hi]
      show some ((ws ++ [(a, (.inr (ci, fs) : va_E))])[i]?) = _
      rw [List.getElem?_append_left hi, List.getElem?_eq_getElem hi]
      rfl
    · rw [List.getElem?_eq_none (by rw [List.length_range]; omega), List.getElem?_eq_none (by (first | decide +kernel | omega))]
      rfl
  have hFc := va_free (wc := [(a, (.inr (ci, fs) : va_E))]) hD1 hS1 hA [ws.length] hC1
  intro T hT Xs
  obtain ⟨v, st₀, t, T', L'', g0, X', gL, e1, e2, ⟨⟨w1, hv, hp, hb, hb2⟩, hz, hk⟩, stp⟩ := hr T hT Xs
  have hv' : v = none := by injection hv
  subst hv'
  rw [g0] at hz hk
  obtain ⟨hPj, hDj⟩ := va_join (wr := ws) (w1 := w1) (H1 := t.heap) hP1 hD1 [ws.length] (List.range ws.length) hC1 hR1 (nd_range ws.length) (fun i hi h => by
    have := List.mem_range.mp hi
    rw [List.mem_singleton.mp h] at this
    omega) hk hFc hb hb2
  have hS' : va_S A s.heap T'.heap (locs ++ L'') := ⟨Nat.le_trans hS1.1 (by rw [e1]; exact hz), fun q h1 h2 => by rw [e1, hk q (Nat.lt_of_lt_of_le h1 hS1.1) (fun z => h2 (hFc q z))]; exact hS1.2.1 q h1 h2, fun q hq => by
      rcases List.mem_append.mp hq with h | h
      · exact hS1.2.2 q h
      · exact hFc _ (gL q h)⟩
  obtain ⟨t2, a1, b1⟩ := kk a w1 T'.heap (locs ++ L'') hp (by rw [e1]; exact hPj) hDj hS' T' rfl X'
  exact ⟨t2, stp t2 a1, b1⟩
end LZN
end
section
def PRod (ca : Nat → ClassId) (a0 : Nat) (w : va_W) : Prop := ∃ (q1 : Nat) (q18 : Nat) (q35 : Nat) (q36 : Nat) (q37 : Nat) (q38 : Nat) (q59 : Nat) (q63 : Nat) (q65 : Nat) (q68 : Nat) (q2 : Nat) (q3 : Nat) (q4 : Nat) (q5 : Nat) (q6 : Nat) (q7 : Nat) (q8 : Nat) (q9 : Nat) (q10 : Nat) (q11 : Nat) (q12 : Nat) (q13 : Nat) (q14 : Nat) (q15 : Nat) (q16 : Nat) (q17 : Nat) (q19 : Nat) (q20 : Nat) (q21 : Nat) (q22 : Nat) (q23 : Nat) (q24 : Nat) (q25 : Nat) (q26 : Nat) (q27 : Nat) (q28 : Nat) (q29 : Nat) (q30 : Nat) (q31 : Nat) (q32 : Nat) (q33 : Nat) (q34 : Nat) (q69 : Nat) (q86 : Nat) (q39 : Nat) (q40 : Nat) (q41 : Nat) (q42 : Nat) (q43 : Nat) (q44 : Nat) (q45 : Nat) (q46 : Nat) (q47 : Nat) (q48 : Nat) (q49 : Nat) (q50 : Nat) (q51 : Nat) (q52 : Nat) (q53 : Nat) (q54 : Nat) (q55 : Nat) (q56 : Nat) (q57 : Nat) (q58 : Nat) (q60 : Nat) (q61 : Nat) (r62 : Nat → Nat) (q64 : Nat) (q66 : Nat) (q67 : Nat) (q103 : Nat) (q105 : Nat) (q107 : Nat) (q109 : Nat) (q70 : Nat) (q71 : Nat) (q72 : Nat) (q73 : Nat) (q74 : Nat) (q75 : Nat) (q76 : Nat) (q77 : Nat) (q78 : Nat) (q79 : Nat) (q80 : Nat) (q81 : Nat) (q82 : Nat) (q83 : Nat) (q84 : Nat) (q85 : Nat) (q87 : Nat) (q88 : Nat) (q89 : Nat) (q90 : Nat) (q91 : Nat) (q92 : Nat) (q93 : Nat) (q94 : Nat) (q95 : Nat) (q96 : Nat) (q97 : Nat) (q98 : Nat) (q99 : Nat) (q100 : Nat) (q101 : Nat) (q102 : Nat) (q104 : Nat) (q106 : Nat) (q108 : Nat) (q110 : Nat), w = [(a0, .inr (10, [.ref q1, .ref q18, .ref q35, .ref q36, .ref q37, .ref q38, .ref q59, .ref q63, .ref q65, .ref q68, .int 0])), (q1, .inr (1, [.ref q2, .ref q3, .ref q4, .int 0, .int 9])), (q4, .inr (7, [.ref q5, .ref q6, .ref q7, .ref q8, .int 0])), (q5, .inl (ca 0, 8, .inl (fun _ => 0))), (q6, .inl (ca 0, 8, .inl (fun _ => 0))), (q7, .inl (ca 0, 8, .inl (fun _ => 0))), (q8, .inl (ca 0, 8, .inl (fun _ => 0))), (q2, .inr (2, [.int 3, .int 3, .int 1, .int 10, .ref q9, .ref q10, .ref q11, .ref q12, .ref q13])), (q9, .inl (ca 0, 16, .inl (fun _ => 0))), (q10, .inl (ca 0, 16, .inl (fun _ => 0))), (q11, .inl (ca 0, 16, .inl (fun _ => 5))), (q12, .inl (ca 0, 16, .inl (fun _ => (-4)))), (q13, .inl (ca 0, 16, .inl (fun _ => 0))), (q3, .inr (3, [.ref q14, .ref q15, .ref q16, .ref q17, .int 0])), (q15, .inl (ca 0, 8, .inl (fun _ => 0))), (q16, .inl (ca 0, 8, .inl (fun _ => 0))), (q17, .inl (ca 0, 8, .inl (fun _ => 0))), (q14, .inl (ca 0, 4, .inl (fun _ => 0))), (q18, .inr (1, [.ref q19, .ref q20, .ref q21, .int 0, .int 9])), (q21, .inr (7, [.ref q22, .ref q23, .ref q24, .ref q25, .int 0])), (q22, .inl (ca 0, 8, .inl (fun _ => 0))), (q23, .inl (ca 0, 8, .inl (fun _ => 0))), (q24, .inl (ca 0, 8, .inl (fun _ => 0))), (q25, .inl (ca 0, 8, .inl (fun _ => 0))), (q19, .inr (2, [.int 3, .int 3, .int 1, .int 10, .ref q26, .ref q27, .ref q28, .ref q29, .ref q30])), (q26, .inl (ca 0, 16, .inl (fun _ => 0))), (q27, .inl (ca 0, 16, .inl (fun _ => 0))), (q28, .inl (ca 0, 16, .inl (fun _ => 5))), (q29, .inl (ca 0, 16, .inl (fun _ => (-4)))), (q30, .inl (ca 0, 16, .inl (fun _ => 0))), (q20, .inr (3, [.ref q31, .ref q32, .ref q33, .ref q34, .int 0])), (q32, .inl (ca 0, 8, .inl (fun _ => 0))), (q33, .inl (ca 0, 8, .inl (fun _ => 0))), (q34, .inl (ca 0, 8, .inl (fun _ => 0))), (q31, .inl (ca 0, 4, .inl (fun _ => 0))), (q35, .inl (ca 3, 2, .inr (.inr (.inr (.inr (va_up (va_up (fun _ => none) 0 (some q69)) 1 (some q86))))))), (q36, .inl (ca 2, 2, .inl (fun _ => 0))), (q37, .inr (5, [.ref q38, .ref q39, .ref q40, .ref q41, .int 0, .int 0, .int 0])), (q38, .inr (8, [.ref q42, .int 0, .int 0, .int 0, .int 0, .int 0])), (q42, .inl (ca 1, 160, .inl (fun _ => 0))), (q39, .inr (1, [.ref q43, .ref q44, .ref q45, .int 0, .int 9])), (q45, .inr (7, [.ref q46, .ref q47, .ref q48, .ref q49, .int 0])), (q46, .inl (ca 0, 8, .inl (fun _ => 0))), (q47, .inl (ca 0, 8, .inl (fun _ => 0))), (q48, .inl (ca 0, 8, .inl (fun _ => 0))), (q49, .inl (ca 0, 8, .inl (fun _ => 0))), (q43, .inr (2, [.int 3, .int 3, .int 1, .int 10, .ref q50, .ref q51, .ref q52, .ref q53, .ref q54])), (q50, .inl (ca 0, 16, .inl (fun _ => 0))), (q51, .inl (ca 0, 16, .inl (fun _ => 0))), (q52, .inl (ca 0, 16, .inl (fun _ => 5))), (q53, .inl (ca 0, 16, .inl (fun _ => (-4)))), (q54, .inl (ca 0, 16, .inl (fun _ => 0))), (q44, .inr (3, [.ref q55, .ref q56, .ref q57, .ref q58, .int 0])), (q56, .inl (ca 0, 8, .inl (fun _ => 0))), (q57, .inl (ca 0, 8, .inl (fun _ => 0))), (q58, .inl (ca 0, 8, .inl (fun _ => 0))), (q55, .inl (ca 0, 4, .inl (fun _ => 0))), (q40, .inl (ca 0, 3, .inl (fun _ => 0))), (q41, .inl (ca 0, 10, .inl (fun _ => 0))), (q59, .inr (9, [.ref q60, .ref q61])), (q60, .inl (ca 5, 6, .inr (.inr (.inr (.inr (fun i => if i < 6 then some (r62 i) else none)))))), ((r62 0), .inl (ca 0, 16, .inl (fun _ => 0))), ((r62 1), .inl (ca 0, 16, .inl (fun _ => 0))), ((r62 2), .inl (ca 0, 16, .inl (fun _ => 0))), ((r62 3), .inl (ca 0, 16, .inl (fun _ => 0))), ((r62 4), .inl (ca 0, 16, .inl (fun _ => 0))), ((r62 5), .inl (ca 0, 16, .inl (fun _ => 0))), (q61, .inl (ca 0, 6, .inl (fun _ => 0))), (q63, .inr (4, [.ref q64, .int 0, .int 0])), (q64, .inl (ca 0, 4, .inl (fun _ => 0))), (q65, .inr (0, [.ref q66, .int 0, .ref q67, .int 0, .int 0, .int 0, .int 0, .int 0])), (q66, .inl (ca 0, 48, .inl (fun _ => 0))), (q67, .inl (ca 0, 10, .inl (fun _ => 0))), (q68, .inl (ca 4, 4, .inr (.inr (.inr (.inr (va_up (va_up (va_up (va_up (fun _ => none) 0 (some q103)) 1 (some q105)) 2 (some q107)) 3 (some q109))))))), (q69, .inr (1, [.ref q70, .ref q71, .ref q72, .int 0, .int 9])), (q72, .inr (7, [.ref q73, .ref q74, .ref q75, .ref q76, .int 0])), (q73, .inl (ca 0, 8, .inl (fun _ => 0))), (q74, .inl (ca 0, 8, .inl (fun _ => 0))), (q75, .inl (ca 0, 8, .inl (fun _ => 0))), (q76, .inl (ca 0, 8, .inl (fun _ => 0))), (q70, .inr (2, [.int 3, .int 3, .int 1, .int 10, .ref q77, .ref q78, .ref q79, .ref q80, .ref q81])), (q77, .inl (ca 0, 16, .inl (fun _ => 0))), (q78, .inl (ca 0, 16, .inl (fun _ => 0))), (q79, .inl (ca 0, 16, .inl (fun _ => 5))), (q80, .inl (ca 0, 16, .inl (fun _ => (-4)))), (q81, .inl (ca 0, 16, .inl (fun _ => 0))), (q71, .inr (3, [.ref q82, .ref q83, .ref q84, .ref q85, .int 0])), (q83, .inl (ca 0, 8, .inl (fun _ => 0))), (q84, .inl (ca 0, 8, .inl (fun _ => 0))), (q85, .inl (ca 0, 8, .inl (fun _ => 0))), (q82, .inl (ca 0, 4, .inl (fun _ => 0))), (q86, .inr (1, [.ref q87, .ref q88, .ref q89, .int 0, .int 9])), (q89, .inr (7, [.ref q90, .ref q91, .ref q92, .ref q93, .int 0])), (q90, .inl (ca 0, 8, .inl (fun _ => 0))), (q91, .inl (ca 0, 8, .inl (fun _ => 0))), (q92, .inl (ca 0, 8, .inl (fun _ => 0))), (q93, .inl (ca 0, 8, .inl (fun _ => 0))), (q87, .inr (2, [.int 3, .int 3, .int 1, .int 10, .ref q94, .ref q95, .ref q96, .ref q97, .ref q98])), (q94, .inl (ca 0, 16, .inl (fun _ => 0))), (q95, .inl (ca 0, 16, .inl (fun _ => 0))), (q96, .inl (ca 0, 16, .inl (fun _ => 5))), (q97, .inl (ca 0, 16, .inl (fun _ => (-4)))), (q98, .inl (ca 0, 16, .inl (fun _ => 0))), (q88, .inr (3, [.ref q99, .ref q100, .ref q101, .ref q102, .int 0])), (q100, .inl (ca 0, 8, .inl (fun _ => 0))), (q101, .inl (ca 0, 8, .inl (fun _ => 0))), (q102, .inl (ca 0, 8, .inl (fun _ => 0))), (q99, .inl (ca 0, 4, .inl (fun _ => 0))), (q103, .inr (6, [.ref q104, .int (-1), .int 0])), (q104, .inl (ca 0, 40, .inl (fun _ => 0))), (q105, .inr (6, [.ref q106, .int (-1), .int 0])), (q106, .inl (ca 0, 40, .inl (fun _ => 0))), (q107, .inr (6, [.ref q108, .int (-1), .int 0])), (q108, .inl (ca 0, 40, .inl (fun _ => 0))), (q109, .inr (6, [.ref q110, .int (-1), .int 0])), (q110, .inl (ca 0, 40, .inl (fun _ => 0)))]
def PMod (ca : Nat → ClassId) (a0 : Nat) (w : va_W) : Prop := ∃ (q1 : Nat) (q2 : Nat) (q3 : Nat) (q4 : Nat) (q5 : Nat) (q6 : Nat) (q7 : Nat) (q8 : Nat) (q9 : Nat) (q10 : Nat) (q11 : Nat) (q12 : Nat) (q13 : Nat) (q14 : Nat) (q15 : Nat), w = [(a0, .inr (11, [.ref q1, .ref q2, .int 3, .int 3, .int 1, .int 10, .ref q3, .int 3, .int 3, .int 1, .int 10, .int 0, .ref q4, .int (-4), .ref q5, .int 0, .int 0, .int 0, .int 0, .int 0, .int 0, .int 0, .ref q6, .ref q7, .ref q8, .int 0, .long 0, .ref q9, .int 0, .ref q10, .int 0, .ref q11, .ref q12, .ref q13, .ref q14, .int 0, .ref q15])), (q1, .inl (ca 0, 432, .inl (fun i => if i < 144 then dr0 i else 0))), (q2, .inl (ca 2, 2, .inl (fun _ => 0))), (q3, .inl (ca 0, 144, .inl dr0)), (q4, .inl (ca 0, 6, .inl (fun _ => 0))), (q5, .inl (ca 0, 160, .inl (fun _ => 0))), (q6, .inl (ca 0, 128, .inl (fun _ => 0))), (q7, .inl (ca 0, 4, .inl (fun _ => 0))), (q8, .inl (ca 0, 4, .inl (fun _ => 0))), (q9, .inl (ca 0, 48, .inl (fun _ => 0))), (q10, .inl (ca 0, 4, .inl (fun _ => 0))), (q11, .inl (ca 0, 16, .inl (fun _ => 0))), (q12, .inl (ca 0, 4, .inl (fun _ => -4))), (q13, .inl (ca 0, 4, .inl (fun _ => 0))), (q14, .inl (ca 0, 160, .inl (fun _ => 0))), (q15, .inl (ca 0, 20, .inl (fun _ => 0)))]
theorem st_fin1 (ca : Nat → ClassId) (ro : Nat → Nat) (b a0 m0 : Nat) (q1 : Nat) (q18 : Nat) (q35 : Nat) (q36 : Nat) (q37 : Nat) (q38 : Nat) (q59 : Nat) (q63 : Nat) (q65 : Nat) (q68 : Nat) (q2 : Nat) (q3 : Nat) (q4 : Nat) (q5 : Nat) (q6 : Nat) (q7 : Nat) (q8 : Nat) (q9 : Nat) (q10 : Nat) (q11 : Nat) (q12 : Nat) (q13 : Nat) (q14 : Nat) (q15 : Nat) (q16 : Nat) (q17 : Nat) (q19 : Nat) (q20 : Nat) (q21 : Nat) (q22 : Nat) (q23 : Nat) (q24 : Nat) (q25 : Nat) (q26 : Nat) (q27 : Nat) (q28 : Nat) (q29 : Nat) (q30 : Nat) (q31 : Nat) (q32 : Nat) (q33 : Nat) (q34 : Nat) (q69 : Nat) (q86 : Nat) (q39 : Nat) (q40 : Nat) (q41 : Nat) (q42 : Nat) (q43 : Nat) (q44 : Nat) (q45 : Nat) (q46 : Nat) (q47 : Nat) (q48 : Nat) (q49 : Nat) (q50 : Nat) (q51 : Nat) (q52 : Nat) (q53 : Nat) (q54 : Nat) (q55 : Nat) (q56 : Nat) (q57 : Nat) (q58 : Nat) (q60 : Nat) (q61 : Nat) (r62 : Nat → Nat) (q64 : Nat) (q66 : Nat) (q67 : Nat) (q103 : Nat) (q105 : Nat) (q107 : Nat) (q109 : Nat) (q70 : Nat) (q71 : Nat) (q72 : Nat) (q73 : Nat) (q74 : Nat) (q75 : Nat) (q76 : Nat) (q77 : Nat) (q78 : Nat) (q79 : Nat) (q80 : Nat) (q81 : Nat) (q82 : Nat) (q83 : Nat) (q84 : Nat) (q85 : Nat) (q87 : Nat) (q88 : Nat) (q89 : Nat) (q90 : Nat) (q91 : Nat) (q92 : Nat) (q93 : Nat) (q94 : Nat) (q95 : Nat) (q96 : Nat) (q97 : Nat) (q98 : Nat) (q99 : Nat) (q100 : Nat) (q101 : Nat) (q102 : Nat) (q104 : Nat) (q106 : Nat) (q108 : Nat) (q110 : Nat) (n1 : Nat) (n2 : Nat) (n3 : Nat) (n4 : Nat) (n5 : Nat) (n6 : Nat) (n7 : Nat) (n8 : Nat) (n9 : Nat) (n10 : Nat) (n11 : Nat) (n12 : Nat) (n13 : Nat) (n14 : Nat) (n15 : Nat) (w1 w2 : va_W) (e1 : w1 = [(a0, .inr (10, [.ref q1, .ref q18, .ref q35, .ref q36, .ref q37, .ref q38, .ref q59, .ref q63, .ref q65, .ref q68, .int 0])), (q1, .inr (1, [.ref q2, .ref q3, .ref q4, .int 0, .int 9])), (q4, .inr (7, [.ref q5, .ref q6, .ref q7, .ref q8, .int 0])), (q5, .inl (ca 0, 8, .inl (fun _ => 0))), (q6, .inl (ca 0, 8, .inl (fun _ => 0))), (q7, .inl (ca 0, 8, .inl (fun _ => 0))), (q8, .inl (ca 0, 8, .inl (fun _ => 0))), (q2, .inr (2, [.int 3, .int 3, .int 1, .int 10, .ref q9, .ref q10, .ref q11, .ref q12, .ref q13])), (q9, .inl (ca 0, 16, .inl (fun _ => 0))), (q10, .inl (ca 0, 16, .inl (fun _ => 0))), (q11, .inl (ca 0, 16, .inl (fun _ => 5))), (q12, .inl (ca 0, 16, .inl (fun _ => (-4)))), (q13, .inl (ca 0, 16, .inl (fun _ => 0))), (q3, .inr (3, [.ref q14, .ref q15, .ref q16, .ref q17, .int 0])), (q15, .inl (ca 0, 8, .inl (fun _ => 0))), (q16, .inl (ca 0, 8, .inl (fun _ => 0))), (q17, .inl (ca 0, 8, .inl (fun _ => 0))), (q14, .inl (ca 0, 4, .inl (fun _ => 0))), (q18, .inr (1, [.ref q19, .ref q20, .ref q21, .int 0, .int 9])), (q21, .inr (7, [.ref q22, .ref q23, .ref q24, .ref q25, .int 0])), (q22, .inl (ca 0, 8, .inl (fun _ => 0))), (q23, .inl (ca 0, 8, .inl (fun _ => 0))), (q24, .inl (ca 0, 8, .inl (fun _ => 0))), (q25, .inl (ca 0, 8, .inl (fun _ => 0))), (q19, .inr (2, [.int 3, .int 3, .int 1, .int 10, .ref q26, .ref q27, .ref q28, .ref q29, .ref q30])), (q26, .inl (ca 0, 16, .inl (fun _ => 0))), (q27, .inl (ca 0, 16, .inl (fun _ => 0))), (q28, .inl (ca 0, 16, .inl (fun _ => 5))), (q29, .inl (ca 0, 16, .inl (fun _ => (-4)))), (q30, .inl (ca 0, 16, .inl (fun _ => 0))), (q20, .inr (3, [.ref q31, .ref q32, .ref q33, .ref q34, .int 0])), (q32, .inl (ca 0, 8, .inl (fun _ => 0))), (q33, .inl (ca 0, 8, .inl (fun _ => 0))), (q34, .inl (ca 0, 8, .inl (fun _ => 0))), (q31, .inl (ca 0, 4, .inl (fun _ => 0))), (q35, .inl (ca 3, 2, .inr (.inr (.inr (.inr (va_up (va_up (fun _ => none) 0 (some q69)) 1 (some q86))))))), (q36, .inl (ca 2, 2, .inl (fun _ => 0))), (q37, .inr (5, [.ref q38, .ref q39, .ref q40, .ref q41, .int 0, .int 0, .int 0])), (q38, .inr (8, [.ref q42, .int 0, .int 0, .int 0, .int 0, .int 0])), (q42, .inl (ca 1, 160, .inl (fun _ => 0))), (q39, .inr (1, [.ref q43, .ref q44, .ref q45, .int 0, .int 9])), (q45, .inr (7, [.ref q46, .ref q47, .ref q48, .ref q49, .int 0])), (q46, .inl (ca 0, 8, .inl (fun _ => 0))), (q47, .inl (ca 0, 8, .inl (fun _ => 0))), (q48, .inl (ca 0, 8, .inl (fun _ => 0))), (q49, .inl (ca 0, 8, .inl (fun _ => 0))), (q43, .inr (2, [.int 3, .int 3, .int 1, .int 10, .ref q50, .ref q51, .ref q52, .ref q53, .ref q54])), (q50, .inl (ca 0, 16, .inl (fun _ => 0))), (q51, .inl (ca 0, 16, .inl (fun _ => 0))), (q52, .inl (ca 0, 16, .inl (fun _ => 5))), (q53, .inl (ca 0, 16, .inl (fun _ => (-4)))), (q54, .inl (ca 0, 16, .inl (fun _ => 0))), (q44, .inr (3, [.ref q55, .ref q56, .ref q57, .ref q58, .int 0])), (q56, .inl (ca 0, 8, .inl (fun _ => 0))), (q57, .inl (ca 0, 8, .inl (fun _ => 0))), (q58, .inl (ca 0, 8, .inl (fun _ => 0))), (q55, .inl (ca 0, 4, .inl (fun _ => 0))), (q40, .inl (ca 0, 3, .inl (fun _ => 0))), (q41, .inl (ca 0, 10, .inl (fun _ => 0))), (q59, .inr (9, [.ref q60, .ref q61])), (q60, .inl (ca 5, 6, .inr (.inr (.inr (.inr (fun i => if i < 6 then some (r62 i) else none)))))), ((r62 0), .inl (ca 0, 16, .inl (fun _ => 0))), ((r62 1), .inl (ca 0, 16, .inl (fun _ => 0))), ((r62 2), .inl (ca 0, 16, .inl (fun _ => 0))), ((r62 3), .inl (ca 0, 16, .inl (fun _ => 0))), ((r62 4), .inl (ca 0, 16, .inl (fun _ => 0))), ((r62 5), .inl (ca 0, 16, .inl (fun _ => 0))), (q61, .inl (ca 0, 6, .inl (fun _ => 0))), (q63, .inr (4, [.ref q64, .int 0, .int 0])), (q64, .inl (ca 0, 4, .inl (fun _ => 0))), (q65, .inr (0, [.ref q66, .int 0, .ref q67, .int 0, .int 0, .int 0, .int 0, .int 0])), (q66, .inl (ca 0, 48, .inl (fun _ => 0))), (q67, .inl (ca 0, 10, .inl (fun _ => 0))), (q68, .inl (ca 4, 4, .inr (.inr (.inr (.inr (va_up (va_up (va_up (va_up (fun _ => none) 0 (some q103)) 1 (some q105)) 2 (some q107)) 3 (some q109))))))), (q69, .inr (1, [.ref q70, .ref q71, .ref q72, .int 0, .int 9])), (q72, .inr (7, [.ref q73, .ref q74, .ref q75, .ref q76, .int 0])), (q73, .inl (ca 0, 8, .inl (fun _ => 0))), (q74, .inl (ca 0, 8, .inl (fun _ => 0))), (q75, .inl (ca 0, 8, .inl (fun _ => 0))), (q76, .inl (ca 0, 8, .inl (fun _ => 0))), (q70, .inr (2, [.int 3, .int 3, .int 1, .int 10, .ref q77, .ref q78, .ref q79, .ref q80, .ref q81])), (q77, .inl (ca 0, 16, .inl (fun _ => 0))), (q78, .inl (ca 0, 16, .inl (fun _ => 0))), (q79, .inl (ca 0, 16, .inl (fun _ => 5))), (q80, .inl (ca 0, 16, .inl (fun _ => (-4)))), (q81, .inl (ca 0, 16, .inl (fun _ => 0))), (q71, .inr (3, [.ref q82, .ref q83, .ref q84, .ref q85, .int 0])), (q83, .inl (ca 0, 8, .inl (fun _ => 0))), (q84, .inl (ca 0, 8, .inl (fun _ => 0))), (q85, .inl (ca 0, 8, .inl (fun _ => 0))), (q82, .inl (ca 0, 4, .inl (fun _ => 0))), (q86, .inr (1, [.ref q87, .ref q88, .ref q89, .int 0, .int 9])), (q89, .inr (7, [.ref q90, .ref q91, .ref q92, .ref q93, .int 0])), (q90, .inl (ca 0, 8, .inl (fun _ => 0))), (q91, .inl (ca 0, 8, .inl (fun _ => 0))), (q92, .inl (ca 0, 8, .inl (fun _ => 0))), (q93, .inl (ca 0, 8, .inl (fun _ => 0))), (q87, .inr (2, [.int 3, .int 3, .int 1, .int 10, .ref q94, .ref q95, .ref q96, .ref q97, .ref q98])), (q94, .inl (ca 0, 16, .inl (fun _ => 0))), (q95, .inl (ca 0, 16, .inl (fun _ => 0))), (q96, .inl (ca 0, 16, .inl (fun _ => 5))), (q97, .inl (ca 0, 16, .inl (fun _ => (-4)))), (q98, .inl (ca 0, 16, .inl (fun _ => 0))), (q88, .inr (3, [.ref q99, .ref q100, .ref q101, .ref q102, .int 0])), (q100, .inl (ca 0, 8, .inl (fun _ => 0))), (q101, .inl (ca 0, 8, .inl (fun _ => 0))), (q102, .inl (ca 0, 8, .inl (fun _ => 0))), (q99, .inl (ca 0, 4, .inl (fun _ => 0))), (q103, .inr (6, [.ref q104, .int (-1), .int 0])), (q104, .inl (ca 0, 40, .inl (fun _ => 0))), (q105, .inr (6, [.ref q106, .int (-1), .int 0])), (q106, .inl (ca 0, 40, .inl (fun _ => 0))), (q107, .inr (6, [.ref q108, .int (-1), .int 0])), (q108, .inl (ca 0, 40, .inl (fun _ => 0))), (q109, .inr (6, [.ref q110, .int (-1), .int 0])), (q110, .inl (ca 0, 40, .inl (fun _ => 0)))]) (e2 : w2 = [(m0, .inr (11, [.ref n1, .ref n2, .int 3, .int 3, .int 1, .int 10, .ref n3, .int 3, .int 3, .int 1, .int 10, .int 0, .ref n4, .int (-4), .ref n5, .int 0, .int 0, .int 0, .int 0, .int 0, .int 0, .int 0, .ref n6, .ref n7, .ref n8, .int 0, .long 0, .ref n9, .int 0, .ref n10, .int 0, .ref n11, .ref n12, .ref n13, .ref n14, .int 0, .ref n15])), (n1, .inl (ca 0, 432, .inl (fun i => if i < 144 then dr0 i else 0))), (n2, .inl (ca 2, 2, .inl (fun _ => 0))), (n3, .inl (ca 0, 144, .inl dr0)), (n4, .inl (ca 0, 6, .inl (fun _ => 0))), (n5, .inl (ca 0, 160, .inl (fun _ => 0))), (n6, .inl (ca 0, 128, .inl (fun _ => 0))), (n7, .inl (ca 0, 4, .inl (fun _ => 0))), (n8, .inl (ca 0, 4, .inl (fun _ => 0))), (n9, .inl (ca 0, 48, .inl (fun _ => 0))), (n10, .inl (ca 0, 4, .inl (fun _ => 0))), (n11, .inl (ca 0, 16, .inl (fun _ => 0))), (n12, .inl (ca 0, 4, .inl (fun _ => -4))), (n13, .inl (ca 0, 4, .inl (fun _ => 0))), (n14, .inl (ca 0, 160, .inl (fun _ => 0))), (n15, .inl (ca 0, 20, .inl (fun _ => 0)))]) : ∃ v : Nat → Nat, v 85 = a0 ∧ v 116 = m0 ∧ v 200 = b ∧ (∀ k, 132 ≤ k → k < 164 → v k = ro k) ∧ w1 ++ w2 = WD ca v := by
  refine ⟨(adOf [q1, q2, q9, q10, q11, q12, q13, q3, q14, q15, q16, q17, q4, q5, q6, q7, q8, q18, q19, q26, q27, q28, q29, q30, q20, q31, q32, q33, q34, q21, q22, q23, q24, q25, q69, q70, q77, q78, q79, q80, q81, q71, q82, q83, q84, q85, q72, q73, q74, q75, q76, q86, q87, q94, q95, q96, q97, q98, q88, q99, q100, q101, q102, q89, q90, q91, q92, q93, q39, q43, q50, q51, q52, q53, q54, q44, q55, q56, q57, q58, q45, q46, q47, q48, q49, a0, q35, q36, q37, q38, q42, q40, q41, q59, q60, (r62 0), (r62 1), (r62 2), (r62 3), (r62 4), (r62 5), q61, q63, q64, q65, q66, q67, q68, q103, q104, q105, q106, q107, q108, q109, q110, m0, n1, n2, n3, n4, n5, n6, n7, n8, n9, n10, n11, n12, n13, n14, n15] ro b), ?_, ?_, ?_, fun k g1 g2 => ?_, ?_⟩
  · exact rfl
  · exact rfl
  · exact rfl
  · show (if k < 132 then _ else if k = 200 then b else ro k) = ro k
    rw [if_neg (by (first | decide +kernel | omega)), if_neg (by (first | decide +kernel | omega))]
  · rw [e1, e2, st_rodw ca ro b a0 m0 q1 q18 q35 q36 q37 q38 q59 q63 q65 q68 q2 q3 q4 q5 q6 q7 q8 q9 q10 q11 q12 q13 q14 q15 q16 q17 q19 q20 q21 q22 q23 q24 q25 q26 q27 q28 q29 q30 q31 q32 q33 q34 q69 q86 q39 q40 q41 q42 q43 q44 q45 q46 q47 q48 q49 q50 q51 q52 q53 q54 q55 q56 q57 q58 q60 q61 r62 q64 q66 q67 q103 q105 q107 q109 q70 q71 q72 q73 q74 q75 q76 q77 q78 q79 q80 q81 q82 q83 q84 q85 q87 q88 q89 q90 q91 q92 q93 q94 q95 q96 q97 q98 q99 q100 q101 q102 q104 q106 q108 q110 n1 n2 n3 n4 n5 n6 n7 n8 n9 n10 n11 n12 n13 n14 n15]
    exact st_wd ca ro b a0 m0 q1 q18 q35 q36 q37 q38 q59 q63 q65 q68 q2 q3 q4 q5 q6 q7 q8 q9 q10 q11 q12 q13 q14 q15 q16 q17 q19 q20 q21 q22 q23 q24 q25 q26 q27 q28 q29 q30 q31 q32 q33 q34 q69 q86 q39 q40 q41 q42 q43 q44 q45 q46 q47 q48 q49 q50 q51 q52 q53 q54 q55 q56 q57 q58 q60 q61 r62 q64 q66 q67 q103 q105 q107 q109 q70 q71 q72 q73 q74 q75 q76 q77 q78 q79 q80 q81 q82 q83 q84 q85 q87 q88 q89 q90 q91 q92 q93 q94 q95 q96 q97 q98 q99 q100 q101 q102 q104 q106 q108 q110 n1 n2 n3 n4 n5 n6 n7 n8 n9 n10 n11 n12 n13 n14 n15
theorem st_fin (ca : Nat → ClassId) (ro : Nat → Nat) (b a0 m0 : Nat) (w1 w2 : va_W) (h1 : PRod ca a0 w1) (h2 : PMod ca m0 w2) : ∃ v : Nat → Nat, v 85 = a0 ∧ v 116 = m0 ∧ v 200 = b ∧ (∀ k, 132 ≤ k → k < 164 → v k = ro k) ∧ w1 ++ w2 = WD ca v :=
  Exists.elim h1 fun q1 h1 => Exists.elim h1 fun q18 h1 => Exists.elim h1 fun q35 h1 => Exists.elim h1 fun q36 h1 => Exists.elim h1 fun q37 h1 => Exists.elim h1 fun q38 h1 => Exists.elim h1 fun q59 h1 => Exists.elim h1 fun q63 h1 => Exists.elim h1 fun q65 h1 => Exists.elim h1 fun q68 h1 => Exists.elim h1 fun q2 h1 => Exists.elim h1 fun q3 h1 => Exists.elim h1 fun q4 h1 => Exists.elim h1 fun q5 h1 => Exists.elim h1 fun q6 h1 => Exists.elim h1 fun q7 h1 => Exists.elim h1 fun q8 h1 => Exists.elim h1 fun q9 h1 => Exists.elim h1 fun q10 h1 => Exists.elim h1 fun q11 h1 => Exists.elim h1 fun q12 h1 => Exists.elim h1 fun q13 h1 => Exists.elim h1 fun q14 h1 => Exists.elim h1 fun q15 h1 => Exists.elim h1 fun q16 h1 => Exists.elim h1 fun q17 h1 => Exists.elim h1 fun q19 h1 => Exists.elim h1 fun q20 h1 => Exists.elim h1 fun q21 h1 => Exists.elim h1 fun q22 h1 => Exists.elim h1 fun q23 h1 => Exists.elim h1 fun q24 h1 => Exists.elim h1 fun q25 h1 => Exists.elim h1 fun q26 h1 => Exists.elim h1 fun q27 h1 => Exists.elim h1 fun q28 h1 => Exists.elim h1 fun q29 h1 => Exists.elim h1 fun q30 h1 => Exists.elim h1 fun q31 h1 => Exists.elim h1 fun q32 h1 => Exists.elim h1 fun q33 h1 => Exists.elim h1 fun q34 h1 => Exists.elim h1 fun q69 h1 => Exists.elim h1 fun q86 h1 => Exists.elim h1 fun q39 h1 => Exists.elim h1 fun q40 h1 => Exists.elim h1 fun q41 h1 => Exists.elim h1 fun q42 h1 => Exists.elim h1 fun q43 h1 => Exists.elim h1 fun q44 h1 => Exists.elim h1 fun q45 h1 => Exists.elim h1 fun q46 h1 => Exists.elim h1 fun q47 h1 => Exists.elim h1 fun q48 h1 => Exists.elim h1 fun q49 h1 => Exists.elim h1 fun q50 h1 => Exists.elim h1 fun q51 h1 => Exists.elim h1 fun q52 h1 => Exists.elim h1 fun q53 h1 => Exists.elim h1 fun q54 h1 => Exists.elim h1 fun q55 h1 => Exists.elim h1 fun q56 h1 => Exists.elim h1 fun q57 h1 => Exists.elim h1 fun q58 h1 => Exists.elim h1 fun q60 h1 => Exists.elim h1 fun q61 h1 => Exists.elim h1 fun r62 h1 => Exists.elim h1 fun q64 h1 => Exists.elim h1 fun q66 h1 => Exists.elim h1 fun q67 h1 => Exists.elim h1 fun q103 h1 => Exists.elim h1 fun q105 h1 => Exists.elim h1 fun q107 h1 => Exists.elim h1 fun q109 h1 => Exists.elim h1 fun q70 h1 => Exists.elim h1 fun q71 h1 => Exists.elim h1 fun q72 h1 => Exists.elim h1 fun q73 h1 => Exists.elim h1 fun q74 h1 => Exists.elim h1 fun q75 h1 => Exists.elim h1 fun q76 h1 => Exists.elim h1 fun q77 h1 => Exists.elim h1 fun q78 h1 => Exists.elim h1 fun q79 h1 => Exists.elim h1 fun q80 h1 => Exists.elim h1 fun q81 h1 => Exists.elim h1 fun q82 h1 => Exists.elim h1 fun q83 h1 => Exists.elim h1 fun q84 h1 => Exists.elim h1 fun q85 h1 => Exists.elim h1 fun q87 h1 => Exists.elim h1 fun q88 h1 => Exists.elim h1 fun q89 h1 => Exists.elim h1 fun q90 h1 => Exists.elim h1 fun q91 h1 => Exists.elim h1 fun q92 h1 => Exists.elim h1 fun q93 h1 => Exists.elim h1 fun q94 h1 => Exists.elim h1 fun q95 h1 => Exists.elim h1 fun q96 h1 => Exists.elim h1 fun q97 h1 => Exists.elim h1 fun q98 h1 => Exists.elim h1 fun q99 h1 => Exists.elim h1 fun q100 h1 => Exists.elim h1 fun q101 h1 => Exists.elim h1 fun q102 h1 => Exists.elim h1 fun q104 h1 => Exists.elim h1 fun q106 h1 => Exists.elim h1 fun q108 h1 => Exists.elim h1 fun q110 h1 => Exists.elim h2 fun n1 h2 => Exists.elim h2 fun n2 h2 => Exists.elim h2 fun n3 h2 => Exists.elim h2 fun n4 h2 => Exists.elim h2 fun n5 h2 => Exists.elim h2 fun n6 h2 => Exists.elim h2 fun n7 h2 => Exists.elim h2 fun n8 h2 => Exists.elim h2 fun n9 h2 => Exists.elim h2 fun n10 h2 => Exists.elim h2 fun n11 h2 => Exists.elim h2 fun n12 h2 => Exists.elim h2 fun n13 h2 => Exists.elim h2 fun n14 h2 => Exists.elim h2 fun n15 h2 => st_fin1 ca ro b a0 m0 q1 q18 q35 q36 q37 q38 q59 q63 q65 q68 q2 q3 q4 q5 q6 q7 q8 q9 q10 q11 q12 q13 q14 q15 q16 q17 q19 q20 q21 q22 q23 q24 q25 q26 q27 q28 q29 q30 q31 q32 q33 q34 q69 q86 q39 q40 q41 q42 q43 q44 q45 q46 q47 q48 q49 q50 q51 q52 q53 q54 q55 q56 q57 q58 q60 q61 r62 q64 q66 q67 q103 q105 q107 q109 q70 q71 q72 q73 q74 q75 q76 q77 q78 q79 q80 q81 q82 q83 q84 q85 q87 q88 q89 q90 q91 q92 q93 q94 q95 q96 q97 q98 q99 q100 q101 q102 q104 q106 q108 q110 n1 n2 n3 n4 n5 n6 n7 n8 n9 n10 n11 n12 n13 n14 n15 w1 w2 h1 h2
end
section
theorem whole_start {p : Program} {e : Env} {s : State} {m : MethodId} {below : List Frame} {meth : Method} {c : Code} (l : Launch) {b L : Nat} {xs : Nat → Int32} (hL : L ≤ 320) (C0 : lw_At p s m meth c b L xs) : W p l e room_1 s m #[Value.ref b] below meth c s.heap [] 0 0 (lw_Z below #[Value.ref b] s) (entryFrame m ([Value.ref b] : List Value).toArray 4) := by
  obtain ⟨hx, hcc, hret, hml, hown, htb, hX, hbl, hlocks, hgv⟩ := C0
  have hts : ∀ w ∈ vv_G, w.before #[Value.ref b] s = true := fun w hw => htb w (List.mem_filter.mp hw).1
  obtain ⟨D, hD0⟩ := st_D hts
  obtain ⟨ca, hca⟩ := st_ca htb
  have hK : va_K D classes (tysC ca) s := ⟨hD0, hca⟩
  have hKw : Kw s := st_Kw htb
  obtain ⟨ro, hRo⟩ := st_Ro (A := fun q => s.heap.size ≤ q) htb hgv (fun a h1 h2 => absurd h1 (Nat.not_lt.mpr h2))
  have hA : ∀ q : Nat, s.heap.size ≤ q → (fun q => s.heap.size ≤ q) q := fun q h => h
  have hl := lv_entry [Value.ref b] (n := 4) (Nat.le_of_ble_eq_true rfl)
  rw [lg_entry_eq]
  generalize (lg_sl [Value.ref b] ++ List.replicate (4 - (lg_sl [Value.ref b]).length) Slot.unset).toArray = lsA at hl ⊢
  have hl1 : lh (fun k => k) lsA 4 [some (.ref b), none, none, none] := ⟨hl.1, hl.2.1, fun i v hi => by
    match i, hi with
    | 0, hi => cases hi; exact hl.2.2 (0, .ref b) List.mem_cons_self
    | 1, hi => cases hi
    | 2, hi => cases hi
    | 3, hi => cases hi
    | _ + 4, hi => cases hi⟩
  refine lz_new (A := fun q => s.heap.size ≤ q) (ws := []) (cl := 0) (sl := 0) (pc := 0) (post := fun a w => PRod ca a w) hx hcc hml hown hts hK hKw hA t_Rod rfl i_Rod t_Rod_ok wk_law_R wi_Rod wn_Rod wd_law_R dl_0 dl_3 dl_4 ck_law_9 (fun a => k_Rod_init D ca a) (by decide) (by decide) (by decide) (by decide) (fun k q hk => by rw [List.getElem?_nil] at hk; cases hk) ⟨fun i j p q hi => (by rw [List.getElem?_nil] at hi; cases hi), fun k q hk => (by rw [List.getElem?_nil] at hk; cases hk)⟩ va_S.rf hl1.1 (fun a0 w1 H1 locs1 hp1 hP1 hD1 hS1 => ?_)
  rw [List.nil_append] at hP1 hD1
  refine lv_astore_n hx hcc dl_7 rfl (asc_has hl1) (by decide) rfl (fun lsB hB => ?_)
  have hl2 : lh (fun k => k) lsB 4 [some (.ref b), some (.ref a0), none, none] := lh_set1 (i := 1) (ls := [some (.ref b), none, none, none]) (v := .ref a0) rfl rfl rfl hB
  refine lz_new (A := fun q => s.heap.size ≤ q) (ws := w1) (post := fun a w => PMod ca a w) hx hcc hml hown hts hK hKw hA t_Mod rfl i_Mod t_Mod_ok wk_law_M wi_Mod wn_Mod wd_law_M dl_8 dl_11 dl_12 ck_law_12 (fun a => k_Mod_init D ca a) (by decide) (by decide) (by decide) (by decide) hP1 hD1 hS1 hl2.1 (fun m0 w2 H2 locs2 hp2 hP2 hD2 hS2 => ?_)
  refine lv_astore_n hx hcc dl_15 rfl (asc_has hl2) (by decide) rfl (fun lsC hC => ?_)
  have hl3 : lh (fun k => k) lsC 4 [some (.ref b), some (.ref a0), some (.ref m0), none] := lh_set1 (i := 2) (ls := [some (.ref b), some (.ref a0), none, none]) (v := .ref m0) rfl rfl rfl hC
  refine lv_iconst (v := 0) hx hcc dl_16 (by decide) ?_
  refine lv_istore_n hx hcc dl_17 rfl (asc_has hl3) (by decide) rfl (fun lsD hDD => ?_)
  have hl4 : lh (fun k => k) lsD 4 [some (.ref b), some (.ref a0), some (.ref m0), some (.int 0)] := lh_set1 (i := 3) (ls := [some (.ref b), some (.ref a0), some (.ref m0), none]) (v := .int 0) rfl rfl rfl hDD
  obtain ⟨v, v85, v116, v200, vro, hw⟩ := st_fin ca ro b a0 m0 w1 w2 hp1 hp2
  rw [hw] at hP2 hD2
  have hz : ∀ k, k < 132 → ∃ q, (wsX (D, v, ca) h0)[k]? = some q ∧ q.1 = v k ∧ (WD ca v)[st_pm.getD k 0]? = some q := fun k hk => by
    have h1 := st_all D ca v k hk
    have h2 : vv_sk[k]? = some (vv_sk[k]'(by rw [vv_skN]; exact hk)) := List.getElem?_eq_getElem _
    rw [h2] at h1
    exact ⟨_, wsX_get h2, rfl, h1⟩
  have hPX : va_P D classes (wsX (D, v, ca) h0) H2 := fun k q hk => by
    obtain ⟨q', g1, -, g3⟩ := hz k (wsX_inv hk).1
    rw [hk] at g1
    cases g1
    exact hP2 _ _ g3
  have hAd : adOk (D, v, ca) (fun q => s.heap.size ≤ q) := ⟨fun i j hi hj e => by
      obtain ⟨q1, -, g1, g2⟩ := hz i hi
      obtain ⟨q2, -, g3, g4⟩ := hz j hj
      exact st_nd i hi j hj (hD2.1 _ _ q1 q2 g2 g4 (by rw [g1, g3]; exact e)), fun k hk => by
      obtain ⟨q1, -, g1, g2⟩ := hz k hk
      have := hD2.2 _ q1 g2
      rw [g1] at this
      exact this⟩
  have hl5 : lh v lsD 4 (LZ 0) := ⟨hl4.1, hl4.2.1, fun i w hi => by
    match i, hi with
    | 0, hi => cases hi; show lsD[0]? = some (.val (.ref (v 200))); rw [v200]; exact hl4.2.2 0 (.ref b) rfl
    | 1, hi => cases hi; show lsD[1]? = some (.val (.ref (v 85))); rw [v85]; exact hl4.2.2 1 (.ref a0) rfl
    | 2, hi => cases hi; show lsD[2]? = some (.val (.ref (v 116))); rw [v116]; exact hl4.2.2 2 (.ref m0) rfl
    | 3, hi => cases hi; exact hl4.2.2 3 (.int 0) rfl
    | _ + 4, hi => cases hi⟩
  exact law_loop hL (L + 5) 0 0 h0 (by (first | decide +kernel | omega)) (by decide) (by (first | decide +kernel | omega)) ⟨inv_h0, ⟨rfl, fun j hj => absurd (show (j : Int) < 0 from hj) (by (first | decide +kernel | omega)), rfl⟩, JA_h0, JB_h0, JS_h0, JR_h0⟩ p l e s m _ below meth c (D, v, ca) (fun q => s.heap.size ≤ q) H2 locs2 lsD ⟨hx, hcc, hml, hown, hts, hlocks, hret, hK, hAd, hA, hRo (D, v, ca) vro⟩ ⟨rfl, v200, hbl, Nat.not_le.mpr hbl, hX, fun q h => h⟩ hPX hS2 hl5
end
