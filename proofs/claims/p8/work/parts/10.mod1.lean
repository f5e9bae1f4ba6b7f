theorem tc_0 : (0 : Int32).toInt = 0 := rfl
theorem tc_1 : (1 : Int32).toInt = 1 := rfl
theorem fa_Mod_99 : FA R_Mod 99 11 15 := ⟨_, _, _, rfl, i_Mod, by decide, vv_Gin (List.mem_append_right _ (List.mem_append_right _ (List.mem_append_right _ (List.mem_append_right _ (List.mem_append_left _ (List.mem_of_getElem? (i := 238) rfl)))))) rfl⟩
theorem tc_m1 : ((-1) : Int32).toInt = (-1) := rfl
theorem fa_Mod_23 : FA R_Mod 23 11 14 := ⟨_, _, _, rfl, i_Mod, by decide, vv_Gin (List.mem_append_right _ (List.mem_append_right _ (List.mem_append_right _ (List.mem_append_right _ (List.mem_append_left _ (List.mem_of_getElem? (i := 237) rfl)))))) rfl⟩
theorem fa_Mod_81 : FA R_Mod 81 11 2 := ⟨_, _, _, rfl, i_Mod, by decide, vv_Gin (List.mem_append_right _ (List.mem_append_right _ (List.mem_append_right _ (List.mem_append_right _ (List.mem_append_left _ (List.mem_of_getElem? (i := 225) rfl)))))) rfl⟩
theorem fa_Mod_84 : FA R_Mod 84 11 3 := ⟨_, _, _, rfl, i_Mod, by decide, vv_Gin (List.mem_append_right _ (List.mem_append_right _ (List.mem_append_right _ (List.mem_append_right _ (List.mem_append_left _ (List.mem_of_getElem? (i := 226) rfl)))))) rfl⟩
theorem tl_0 : (0 : Int64).toInt = 0 := rfl
theorem cb_Mod_cellMany : CB y_Mod_cellMany b_Mod_cellMany 1 (some .int) 0 := ⟨vv_Gin (List.mem_append_right _ (List.mem_append_right _ (List.mem_append_right _ (List.mem_append_right _ (List.mem_append_right _ (List.mem_append_left _ (List.mem_of_getElem? (i := 198) rfl))))))) rfl, by decide +kernel, vv_Gin (List.mem_append_right _ (List.mem_append_left _ (List.mem_of_getElem? (i := 13) rfl))) rfl⟩
theorem im_Mod_cellMany : Cond.instanceMethod y_Mod_cellMany ∈ vv_G := vv_Gin (List.mem_append_right _ (List.mem_append_right _ (List.mem_append_right _ (List.mem_append_right _ (List.mem_append_right _ (List.mem_append_left _ (List.mem_of_getElem? (i := 197) rfl))))))) rfl
theorem se_Mod_cellMany : Cond.selects y_Mod_cellMany.cls y_Mod_cellMany y_Mod_cellMany ∈ vv_G := vv_Gin (List.mem_append_left _ (List.mem_of_getElem? (i := 36) rfl)) rfl
theorem cv_Mod_183 : CV R_Mod 183 y_Mod_cellMany b_Mod_cellMany 1 (some .int) 0 := ⟨cb_Mod_cellMany, im_Mod_cellMany, se_Mod_cellMany, vv_Gin (List.mem_append_right _ (List.mem_append_right _ (List.mem_append_right _ (List.mem_append_right _ (List.mem_append_right _ (List.mem_append_left _ (List.mem_of_getElem? (i := 195) rfl))))))) rfl⟩
theorem cb_Mod_in : CB y_Mod_in b_Mod_in 6 (some .boolean) 3 := ⟨vv_Gin (List.mem_append_right _ (List.mem_append_right _ (List.mem_append_right _ (List.mem_append_right _ (List.mem_append_right _ (List.mem_append_left _ (List.mem_of_getElem? (i := 102) rfl))))))) rfl, by decide +kernel, vv_Gin (List.mem_append_right _ (List.mem_append_left _ (List.mem_of_getElem? (i := 13) rfl))) rfl⟩
theorem st_Mod_in : Cond.static y_Mod_in ∈ vv_G := vv_Gin (List.mem_append_right _ (List.mem_append_right _ (List.mem_append_right _ (List.mem_append_right _ (List.mem_append_right _ (List.mem_append_left _ (List.mem_of_getElem? (i := 101) rfl))))))) rfl
theorem cs_Mod_95 : CS R_Mod 95 y_Mod_in b_Mod_in 6 (some .boolean) 3 := ⟨cb_Mod_in, st_Mod_in, Or.inl (vv_Gin (List.mem_append_right _ (List.mem_append_right _ (List.mem_append_right _ (List.mem_append_right _ (List.mem_append_right _ (List.mem_append_left _ (List.mem_of_getElem? (i := 100) rfl))))))) rfl)⟩
theorem wl_Mod_186 : Cond.constantLong R_Mod 186 3 ∈ vv_G := vv_Gin (List.mem_append_right _ (List.mem_append_right _ (List.mem_append_right _ (List.mem_append_right _ (List.mem_append_right _ (List.mem_append_left _ (List.mem_of_getElem? (i := 217) (by decide +kernel)))))))) (by decide +kernel)
theorem tl_3 : (3 : Int64).toInt = 3 := rfl
theorem fa_Mod_7 : FA R_Mod 7 11 0 := ⟨_, _, _, rfl, i_Mod, by decide, vv_Gin (List.mem_append_right _ (List.mem_append_right _ (List.mem_append_right _ (List.mem_append_right _ (List.mem_append_left _ (List.mem_of_getElem? (i := 223) rfl)))))) rfl⟩
theorem tc_64 : (64 : Int32).toInt = 64 := rfl
theorem cb_Mod_isWellBy : CB y_Mod_isWellBy b_Mod_isWellBy 2 (some .boolean) 2 := ⟨vv_Gin (List.mem_append_right _ (List.mem_append_right _ (List.mem_append_right _ (List.mem_append_right _ (List.mem_append_right _ (List.mem_append_left _ (List.mem_of_getElem? (i := 206) rfl))))))) rfl, by decide +kernel, vv_Gin (List.mem_append_right _ (List.mem_append_left _ (List.mem_of_getElem? (i := 13) rfl))) rfl⟩
theorem st_Mod_isWellBy : Cond.static y_Mod_isWellBy ∈ vv_G := vv_Gin (List.mem_append_right _ (List.mem_append_right _ (List.mem_append_right _ (List.mem_append_right _ (List.mem_append_right _ (List.mem_append_left _ (List.mem_of_getElem? (i := 205) rfl))))))) rfl
theorem cs_Mod_188 : CS R_Mod 188 y_Mod_isWellBy b_Mod_isWellBy 2 (some .boolean) 2 := ⟨cb_Mod_isWellBy, st_Mod_isWellBy, Or.inl (vv_Gin (List.mem_append_right _ (List.mem_append_right _ (List.mem_append_right _ (List.mem_append_right _ (List.mem_append_right _ (List.mem_append_left _ (List.mem_of_getElem? (i := 204) rfl))))))) rfl)⟩
theorem wl_Mod_93 : Cond.constantLong R_Mod 93 127 ∈ vv_G := vv_Gin (List.mem_append_right _ (List.mem_append_right _ (List.mem_append_right _ (List.mem_append_right _ (List.mem_append_right _ (List.mem_append_left _ (List.mem_of_getElem? (i := 99) (by decide +kernel)))))))) (by decide +kernel)
theorem tl_127 : (127 : Int64).toInt = 127 := rfl
theorem tc_160 : (160 : Int32).toInt = 160 := rfl
theorem fp_Mod_99 : FP R_Mod 99 11 15 .int := ⟨_, _, _, t_Mod, rfl, i_Mod, by decide, vv_Gin (List.mem_append_right _ (List.mem_append_right _ (List.mem_append_right _ (List.mem_append_right _ (List.mem_append_left _ (List.mem_of_getElem? (i := 238) rfl)))))) rfl, t_Mod_ok, n_Mod, rfl, t_Mod_ok 15 (by decide)⟩
theorem tc_m3 : ((-3) : Int32).toInt = (-3) := rfl
theorem fa_Mod_102 : FA R_Mod 102 11 20 := ⟨_, _, _, rfl, i_Mod, by decide, vv_Gin (List.mem_append_right _ (List.mem_append_right _ (List.mem_append_right _ (List.mem_append_right _ (List.mem_append_right _ (List.mem_append_left _ (List.mem_of_getElem? (i := 3) rfl))))))) rfl⟩
theorem fa_Mod_328 : FA R_Mod 328 11 35 := ⟨_, _, _, rfl, i_Mod, by decide, vv_Gin (List.mem_append_right _ (List.mem_append_right _ (List.mem_append_right _ (List.mem_append_right _ (List.mem_append_right _ (List.mem_append_left _ (List.mem_of_getElem? (i := 18) rfl))))))) rfl⟩
theorem fa_Mod_87 : FA R_Mod 87 11 4 := ⟨_, _, _, rfl, i_Mod, by decide, vv_Gin (List.mem_append_right _ (List.mem_append_right _ (List.mem_append_right _ (List.mem_append_right _ (List.mem_append_left _ (List.mem_of_getElem? (i := 227) rfl)))))) rfl⟩
theorem fa_Mod_90 : FA R_Mod 90 11 5 := ⟨_, _, _, rfl, i_Mod, by decide, vv_Gin (List.mem_append_right _ (List.mem_append_right _ (List.mem_append_right _ (List.mem_append_right _ (List.mem_append_left _ (List.mem_of_getElem? (i := 228) rfl)))))) rfl⟩
theorem tc_84 : (84 : Int32).toInt = 84 := rfl
theorem tc_85 : (85 : Int32).toInt = 85 := rfl
theorem tc_86 : (86 : Int32).toInt = 86 := rfl
theorem cb_Mod_isOwner : CB y_Mod_isOwner b_Mod_isOwner 1 (some .boolean) 1 := ⟨vv_Gin (List.mem_append_right _ (List.mem_append_right _ (List.mem_append_right _ (List.mem_append_right _ (List.mem_append_right _ (List.mem_append_left _ (List.mem_of_getElem? (i := 216) rfl))))))) rfl, by decide +kernel, vv_Gin (List.mem_append_right _ (List.mem_append_left _ (List.mem_of_getElem? (i := 13) rfl))) rfl⟩
theorem st_Mod_isOwner : Cond.static y_Mod_isOwner ∈ vv_G := vv_Gin (List.mem_append_right _ (List.mem_append_right _ (List.mem_append_right _ (List.mem_append_right _ (List.mem_append_right _ (List.mem_append_left _ (List.mem_of_getElem? (i := 215) rfl))))))) rfl
theorem cs_Mod_205 : CS R_Mod 205 y_Mod_isOwner b_Mod_isOwner 1 (some .boolean) 1 := ⟨cb_Mod_isOwner, st_Mod_isOwner, Or.inl (vv_Gin (List.mem_append_right _ (List.mem_append_right _ (List.mem_append_right _ (List.mem_append_right _ (List.mem_append_right _ (List.mem_append_left _ (List.mem_of_getElem? (i := 214) rfl))))))) rfl)⟩
theorem tc_80 : (80 : Int32).toInt = 80 := rfl
theorem d_Mod_in_0 : decode b_Mod_in 0 = .ok (.lload_n 0, 1) := dc_30 (by decide +kernel)
theorem d_Mod_in_1 : decode b_Mod_in 1 = .ok (.lload_n 2, 1) := dc_32 (by decide +kernel)
theorem d_Mod_in_2 : decode b_Mod_in 2 = .ok (.lcmp, 1) := dc_148 (by decide +kernel)
theorem d_Mod_in_3 : decode b_Mod_in 3 = .ok (.ifCond .lt 14, 3) := dc_155 (a := 0) (b := 14) (by decide +kernel) rfl
theorem d_Mod_in_6 : decode b_Mod_in 6 = .ok (.lload_n 0, 1) := dc_30 (by decide +kernel)
theorem d_Mod_in_7 : decode b_Mod_in 7 = .ok (.lload 4, 2) := dc_22 (a := 4) (by decide +kernel) rfl
theorem d_Mod_in_9 : decode b_Mod_in 9 = .ok (.lcmp, 1) := dc_148 (by decide +kernel)
theorem d_Mod_in_10 : decode b_Mod_in 10 = .ok (.ifCond .gt 7, 3) := dc_157 (a := 0) (b := 7) (by decide +kernel) rfl
theorem d_Mod_in_13 : decode b_Mod_in 13 = .ok (.iconst 1, 1) := dc_4 (by decide +kernel)
theorem d_Mod_in_14 : decode b_Mod_in 14 = .ok (.goto 4, 3) := dc_167 (a := 0) (b := 4) (by decide +kernel) rfl
theorem d_Mod_in_17 : decode b_Mod_in 17 = .ok (.iconst 0, 1) := dc_3 (by decide +kernel)
theorem d_Mod_in_18 : decode b_Mod_in 18 = .ok (.ireturn, 1) := dc_172 (by decide +kernel)
abbrev q_Mod_in (h : Hp) (v : Int64) (vZ : Int) (lo : Int64) (loZ : Int) (hi : Int64) (hiZ : Int) : Option Value → Hp → Prop := pInt (fun r h' => h = h' ∧ (r.toInt = 1 ∧ loZ ≤ vZ ∧ vZ ≤ hiZ ∨ r.toInt = 0 ∧ (vZ < loZ ∨ hiZ < vZ)))
set_option maxRecDepth 100000 in
theorem c_Mod_in (h : Hp) (v : Int64) (vZ : Int) (vE : v.toInt = vZ) (lo : Int64) (loZ : Int) (loE : lo.toInt = loZ) (hi : Int64) (hiZ : Int) (hiE : hi.toInt = hiZ) : Ct y_Mod_in b_Mod_in 6 (some .boolean) 0 0 [.long v, .long lo, .long hi] h (q_Mod_in h v vZ lo loZ hi hiZ) := by
  refine ct_ow R_Mod [some (.long v), none, some (.long lo), none, some (.long hi), none] rfl (by decide) rfl (Nat.le_of_ble_eq_true rfl) ?_
  have f0 : fr [] h h := fr_rf
  refine V_lload_n 0 d_Mod_in_0 rfl rfl ?_
  refine V_lload_n 2 d_Mod_in_1 rfl rfl ?_
  refine N_lcmp d_Mod_in_2 (fun z1 z1Z z1E z1e => ?_)
  have g2 := lcmp_ti vE loE z1e z1E
  refine V_if_lt 17 z1E d_Mod_in_3 (by decide) (fun c3 => ?_) (fun c3 => ?_)
  ·
    refine V_iconst 0 d_Mod_in_17 (by decide) ?_
    exact V_zret rfl (by decide) d_Mod_in_18 ⟨0, rfl, ⟨rfl, (by (try rw [show Int32.toInt 0 = 0 from rfl]); omega)⟩⟩
  ·
    refine V_lload_n 0 d_Mod_in_6 rfl rfl ?_
    refine V_lload d_Mod_in_7 rfl ?_
    refine N_lcmp d_Mod_in_9 (fun z4 z4Z z4E z4e => ?_)
    have g5 := lcmp_ti vE hiE z4e z4E
    refine V_if_gt 17 z4E d_Mod_in_10 (by decide) (fun c6 => ?_) (fun c6 => ?_)
    ·
      refine V_iconst 0 d_Mod_in_17 (by decide) ?_
      exact V_zret rfl (by decide) d_Mod_in_18 ⟨0, rfl, ⟨rfl, (by (try rw [show Int32.toInt 0 = 0 from rfl]); omega)⟩⟩
    ·
      refine V_iconst 1 d_Mod_in_13 (by decide) ?_
      refine V_goto 18 d_Mod_in_14 (by decide) ?_
      exact V_zret rfl (by decide) d_Mod_in_18 ⟨1, rfl, ⟨rfl, (by (try rw [show Int32.toInt 1 = 1 from rfl]); omega)⟩⟩
theorem d_Mod_flag_0 : decode b_Mod_flag 0 = .ok (.iload_n 0, 1) := dc_26 (by decide +kernel)
theorem d_Mod_flag_1 : decode b_Mod_flag 1 = .ok (.ifCond .eq 7, 3) := dc_153 (a := 0) (b := 7) (by decide +kernel) rfl
theorem d_Mod_flag_4 : decode b_Mod_flag 4 = .ok (.iconst 1, 1) := dc_4 (by decide +kernel)
theorem d_Mod_flag_5 : decode b_Mod_flag 5 = .ok (.goto 4, 3) := dc_167 (a := 0) (b := 4) (by decide +kernel) rfl
theorem d_Mod_flag_8 : decode b_Mod_flag 8 = .ok (.iconst 0, 1) := dc_3 (by decide +kernel)
theorem d_Mod_flag_9 : decode b_Mod_flag 9 = .ok (.ireturn, 1) := dc_172 (by decide +kernel)
abbrev q_Mod_flag (h : Hp) (b : Int32) (bZ : Int) : Option Value → Hp → Prop := pInt (fun r h' => h = h' ∧ (bZ ≠ 0 ∧ r.toInt = 1 ∨ bZ = 0 ∧ r.toInt = 0))
set_option maxRecDepth 100000 in
theorem c_Mod_flag (h : Hp) (b : Int32) (bZ : Int) (bE : b.toInt = bZ) : Ct y_Mod_flag b_Mod_flag 1 (some .int) 0 0 [.int b] h (q_Mod_flag h b bZ) := by
  refine ct_ow R_Mod [some (.int b)] rfl (by decide) rfl (Nat.le_of_ble_eq_true rfl) ?_
  have f0 : fr [] h h := fr_rf
  refine V_iload_n 0 d_Mod_flag_0 rfl rfl ?_
  refine V_if_eq 8 bE d_Mod_flag_1 (by decide) (fun c1 => ?_) (fun c1 => ?_)
  ·
    refine V_iconst 0 d_Mod_flag_8 (by decide) ?_
    exact V_iret rfl d_Mod_flag_9 ⟨0, rfl, ⟨rfl, (by (try rw [show Int32.toInt 0 = 0 from rfl]); omega)⟩⟩
  ·
    refine V_iconst 1 d_Mod_flag_4 (by decide) ?_
    refine V_goto 9 d_Mod_flag_5 (by decide) ?_
    exact V_iret rfl d_Mod_flag_9 ⟨1, rfl, ⟨rfl, (by (try rw [show Int32.toInt 1 = 1 from rfl]); omega)⟩⟩
theorem d_Mod_look_0 : decode b_Mod_look 0 = .ok (.iload_n 1, 1) := dc_27 (by decide +kernel)
theorem d_Mod_look_1 : decode b_Mod_look 1 = .ok (.aload_n 0, 1) := dc_42 (by decide +kernel)
theorem d_Mod_look_2 : decode b_Mod_look 2 = .ok (.getfield 99, 3) := dc_180 (a := 0) (b := 99) (by decide +kernel) rfl
theorem d_Mod_look_5 : decode b_Mod_look 5 = .ok (.if_icmp .ge 12, 3) := dc_162 (a := 0) (b := 12) (by decide +kernel) rfl
theorem d_Mod_look_8 : decode b_Mod_look 8 = .ok (.aload_n 0, 1) := dc_42 (by decide +kernel)
theorem d_Mod_look_9 : decode b_Mod_look 9 = .ok (.getfield 23, 3) := dc_180 (a := 0) (b := 23) (by decide +kernel) rfl
theorem d_Mod_look_12 : decode b_Mod_look 12 = .ok (.iload_n 1, 1) := dc_27 (by decide +kernel)
theorem d_Mod_look_13 : decode b_Mod_look 13 = .ok (.iaload, 1) := dc_46 (by decide +kernel)
theorem d_Mod_look_14 : decode b_Mod_look 14 = .ok (.goto 4, 3) := dc_167 (a := 0) (b := 4) (by decide +kernel) rfl
theorem d_Mod_look_17 : decode b_Mod_look 17 = .ok (.iconst (-1), 1) := dc_2 (by decide +kernel)
theorem d_Mod_look_18 : decode b_Mod_look 18 = .ok (.ireturn, 1) := dc_172 (by decide +kernel)
theorem d_Mod_cellMany_0 : decode b_Mod_cellMany 0 = .ok (.aload_n 0, 1) := dc_42 (by decide +kernel)
theorem d_Mod_cellMany_1 : decode b_Mod_cellMany 1 = .ok (.getfield 81, 3) := dc_180 (a := 0) (b := 81) (by decide +kernel) rfl
theorem d_Mod_cellMany_4 : decode b_Mod_cellMany 4 = .ok (.aload_n 0, 1) := dc_42 (by decide +kernel)
theorem d_Mod_cellMany_5 : decode b_Mod_cellMany 5 = .ok (.getfield 84, 3) := dc_180 (a := 0) (b := 84) (by decide +kernel) rfl
theorem d_Mod_cellMany_8 : decode b_Mod_cellMany 8 = .ok (.imul, 1) := dc_104 (by decide +kernel)
theorem d_Mod_cellMany_9 : decode b_Mod_cellMany 9 = .ok (.ireturn, 1) := dc_172 (by decide +kernel)
abbrev q_Mod_cellMany (h : Hp) (w : Int32) (wZ : Int) (g : Int32) (gZ : Int) : Option Value → Hp → Prop := pInt (fun r h' => h = h' ∧ (4 ≤ r.toInt ∧ r.toInt ≤ 16 ∧ r.toInt = wZ * gZ))
set_option maxRecDepth 100000 in
theorem c_Mod_cellMany (h : Hp) (hI : Inv h) (w : Int32) (wZ : Int) (wE : w.toInt = wZ) (wK : h.1 116 2 = w) (g : Int32) (gZ : Int) (gE : g.toInt = gZ) (gK : h.1 116 3 = g) : Ct y_Mod_cellMany b_Mod_cellMany 1 (some .int) 0 0 [.ref 116] h (q_Mod_cellMany h w wZ g gZ) := by
  refine ct_ow R_Mod [some (.ref 116)] rfl (by decide) rfl (Nat.le_of_ble_eq_true rfl) ?_
  have f0 : fr [] h h := fr_rf
  have g1 : 2 ≤ wZ ∧ wZ ≤ 4 := inv_at hI wE wK.symm rfl
  have g2 : 2 ≤ gZ ∧ gZ ≤ 4 := inv_at hI gE gK.symm rfl
  refine V_aload_n 0 d_Mod_cellMany_0 rfl rfl ?_
  refine N_getK fa_Mod_81 sk_116 rfl d_Mod_cellMany_1 wK ?_
  refine V_aload_n 0 d_Mod_cellMany_4 rfl rfl ?_
  refine N_getK fa_Mod_84 sk_116 rfl d_Mod_cellMany_5 gK ?_
  refine N_mul24 wE gE (by (first | decide +kernel | omega)) (by (first | decide +kernel | omega)) d_Mod_cellMany_8 (fun z3 z3Z z3E z3e z3r z3m => ?_)
  exact V_iret rfl d_Mod_cellMany_9 ⟨z3, rfl, ⟨rfl, (by (try rw [z3E]); omega)⟩⟩
theorem d_Mod_isCell_0 : decode b_Mod_isCell 0 = .ok (.iload_n 1, 1) := dc_27 (by decide +kernel)
theorem d_Mod_isCell_1 : decode b_Mod_isCell 1 = .ok (.i2l, 1) := dc_133 (by decide +kernel)
theorem d_Mod_isCell_2 : decode b_Mod_isCell 2 = .ok (.lconst 0, 1) := dc_9 (by decide +kernel)
theorem d_Mod_isCell_3 : decode b_Mod_isCell 3 = .ok (.aload_n 0, 1) := dc_42 (by decide +kernel)
theorem d_Mod_isCell_4 : decode b_Mod_isCell 4 = .ok (.invokevirtual 183, 3) := dc_182 (a := 0) (b := 183) (by decide +kernel) rfl
theorem d_Mod_isCell_7 : decode b_Mod_isCell 7 = .ok (.iconst 1, 1) := dc_4 (by decide +kernel)
theorem d_Mod_isCell_8 : decode b_Mod_isCell 8 = .ok (.isub, 1) := dc_100 (by decide +kernel)
theorem d_Mod_isCell_9 : decode b_Mod_isCell 9 = .ok (.i2l, 1) := dc_133 (by decide +kernel)
theorem d_Mod_isCell_10 : decode b_Mod_isCell 10 = .ok (.invokestatic 95, 3) := dc_184 (a := 0) (b := 95) (by decide +kernel) rfl
theorem d_Mod_isCell_13 : decode b_Mod_isCell 13 = .ok (.ireturn, 1) := dc_172 (by decide +kernel)
abbrev q_Mod_isCell (h : Hp) (c : Int32) (cZ : Int) (w : Int32) (wZ : Int) (g : Int32) (gZ : Int) : Option Value → Hp → Prop := pInt (fun r h' => h = h' ∧ (r.toInt = 1 ∧ 0 ≤ cZ ∧ cZ ≤ 15 ∨ r.toInt = 0))
set_option maxRecDepth 100000 in
theorem c_Mod_isCell (h : Hp) (hI : Inv h) (c : Int32) (cZ : Int) (cE : c.toInt = cZ) (w : Int32) (wZ : Int) (wE : w.toInt = wZ) (wK : h.1 116 2 = w) (g : Int32) (gZ : Int) (gE : g.toInt = gZ) (gK : h.1 116 3 = g) : Ct y_Mod_isCell b_Mod_isCell 2 (some .boolean) 1 25 [.ref 116, .int c] h (q_Mod_isCell h c cZ w wZ g gZ) := by
  refine ct_ow R_Mod [some (.ref 116), some (.int c)] rfl (by decide) rfl (Nat.le_of_ble_eq_true rfl) ?_
  have f0 : fr [] h h := fr_rf
  have g1 : 2 ≤ wZ ∧ wZ ≤ 4 := inv_at hI wE wK.symm rfl
  have g2 : 2 ≤ gZ ∧ gZ ≤ 4 := inv_at hI gE gK.symm rfl
  refine V_iload_n 1 d_Mod_isCell_0 rfl rfl ?_
  refine V_i2l d_Mod_isCell_1 (fun z3 z3e z3E => ?_)
  have z3F : z3.toInt = cZ := z3E.trans cE
  refine V_lconst 0 d_Mod_isCell_2 (by decide) ?_
  refine V_aload_n 0 d_Mod_isCell_3 rfl rfl ?_
  refine N_callVI [] [.long 0, .long z3] cv_Mod_183 sk_116 rfl d_Mod_isCell_4 rfl (Nat.le_of_ble_eq_true rfl) (by decide) (by decide) (c_Mod_cellMany h hI w wZ wE wK g gZ gE gK) (fun z4 h5 z4Z z4E p6 => ?_)
  obtain ⟨eh5, p6⟩ := p6
  subst eh5
  refine V_iconst 1 d_Mod_isCell_7 (by decide) ?_
  refine V_isub z4E tc_1 (by (first | decide +kernel | omega)) d_Mod_isCell_8 (fun z7 z7e z7E => ?_)
  refine V_i2l d_Mod_isCell_9 (fun z8 z8e z8E => ?_)
  have z8F : z8.toInt = (z4Z - 1) := z8E.trans z7E
  refine N_callSI [.long z3, .long 0, .long z8] [] cs_Mod_95 d_Mod_isCell_10 rfl (Nat.le_of_ble_eq_true rfl) (by decide) (by decide) (c_Mod_in h z3 cZ z3F 0 0 tl_0 z8 ((z4Z - 1)) z8F) (fun z9 h10 z9Z z9E p11 => ?_)
  obtain ⟨eh10, p11⟩ := p11
  subst eh10
  exact V_zret rfl (by rw [z9E]; omega) d_Mod_isCell_13 ⟨z9, rfl, ⟨rfl, (by (try rw [z9E]); omega)⟩⟩
theorem d_Mod_isOwner_0 : decode b_Mod_isOwner 0 = .ok (.iload_n 0, 1) := dc_26 (by decide +kernel)
theorem d_Mod_isOwner_1 : decode b_Mod_isOwner 1 = .ok (.i2l, 1) := dc_133 (by decide +kernel)
theorem d_Mod_isOwner_2 : decode b_Mod_isOwner 2 = .ok (.lconst 0, 1) := dc_9 (by decide +kernel)
theorem d_Mod_isOwner_3 : decode b_Mod_isOwner 3 = .ok (.ldc2_w 186, 3) := dc_20 (a := 0) (b := 186) (by decide +kernel) rfl
theorem d_Mod_isOwner_6 : decode b_Mod_isOwner 6 = .ok (.invokestatic 95, 3) := dc_184 (a := 0) (b := 95) (by decide +kernel) rfl
theorem d_Mod_isOwner_9 : decode b_Mod_isOwner 9 = .ok (.ireturn, 1) := dc_172 (by decide +kernel)
abbrev q_Mod_isOwner (h : Hp) (o : Int32) (oZ : Int) : Option Value → Hp → Prop := pInt (fun r h' => h = h' ∧ (r.toInt = 1 ∧ 0 ≤ oZ ∧ oZ ≤ 3 ∨ r.toInt = 0 ∧ (oZ < 0 ∨ 3 < oZ)))
set_option maxRecDepth 100000 in
theorem c_Mod_isOwner (h : Hp) (o : Int32) (oZ : Int) (oE : o.toInt = oZ) : Ct y_Mod_isOwner b_Mod_isOwner 1 (some .boolean) 1 25 [.int o] h (q_Mod_isOwner h o oZ) := by
  refine ct_ow R_Mod [some (.int o)] rfl (by decide) rfl (Nat.le_of_ble_eq_true rfl) ?_
  have f0 : fr [] h h := fr_rf
  refine V_iload_n 0 d_Mod_isOwner_0 rfl rfl ?_
  refine V_i2l d_Mod_isOwner_1 (fun z1 z1e z1E => ?_)
  have z1F : z1.toInt = oZ := z1E.trans oE
  refine V_lconst 0 d_Mod_isOwner_2 (by decide) ?_
  refine V_ldc2 d_Mod_isOwner_3 wl_Mod_186 ?_
  refine N_callSI [.long z1, .long 0, .long 3] [] cs_Mod_95 d_Mod_isOwner_6 rfl (Nat.le_of_ble_eq_true rfl) (by decide) (by decide) (c_Mod_in h z1 oZ z1F 0 0 tl_0 3 3 tl_3) (fun z2 h3 z2Z z2E p4 => ?_)
  obtain ⟨eh3, p4⟩ := p4
  subst eh3
  exact V_zret rfl (by rw [z2E]; omega) d_Mod_isOwner_9 ⟨z2, rfl, ⟨rfl, (by (try rw [z2E]); omega)⟩⟩
theorem d_Mod_isWellBy_0 : decode b_Mod_isWellBy 0 = .ok (.iload_n 0, 1) := dc_26 (by decide +kernel)
theorem d_Mod_isWellBy_1 : decode b_Mod_isWellBy 1 = .ok (.ifCond .le 12, 3) := dc_158 (a := 0) (b := 12) (by decide +kernel) rfl
theorem d_Mod_isWellBy_4 : decode b_Mod_isWellBy 4 = .ok (.iload_n 0, 1) := dc_26 (by decide +kernel)
theorem d_Mod_isWellBy_5 : decode b_Mod_isWellBy 5 = .ok (.iload_n 1, 1) := dc_27 (by decide +kernel)
theorem d_Mod_isWellBy_6 : decode b_Mod_isWellBy 6 = .ok (.if_icmp .gt 7, 3) := dc_163 (a := 0) (b := 7) (by decide +kernel) rfl
theorem d_Mod_isWellBy_9 : decode b_Mod_isWellBy 9 = .ok (.iconst 1, 1) := dc_4 (by decide +kernel)
theorem d_Mod_isWellBy_10 : decode b_Mod_isWellBy 10 = .ok (.goto 4, 3) := dc_167 (a := 0) (b := 4) (by decide +kernel) rfl
theorem d_Mod_isWellBy_13 : decode b_Mod_isWellBy 13 = .ok (.iconst 0, 1) := dc_3 (by decide +kernel)
theorem d_Mod_isWellBy_14 : decode b_Mod_isWellBy 14 = .ok (.ireturn, 1) := dc_172 (by decide +kernel)
abbrev q_Mod_isWellBy (h : Hp) (a : Int32) (aZ : Int) (b : Int32) (bZ : Int) : Option Value → Hp → Prop := pInt (fun r h' => h = h' ∧ (r.toInt = 0 ∨ r.toInt = 1))
set_option maxRecDepth 100000 in
theorem c_Mod_isWellBy (h : Hp) (a : Int32) (aZ : Int) (aE : a.toInt = aZ) (b : Int32) (bZ : Int) (bE : b.toInt = bZ) : Ct y_Mod_isWellBy b_Mod_isWellBy 2 (some .boolean) 0 0 [.int a, .int b] h (q_Mod_isWellBy h a aZ b bZ) := by
  refine ct_ow R_Mod [some (.int a), some (.int b)] rfl (by decide) rfl (Nat.le_of_ble_eq_true rfl) ?_
  have f0 : fr [] h h := fr_rf
  refine V_iload_n 0 d_Mod_isWellBy_0 rfl rfl ?_
  refine V_if_le 13 aE d_Mod_isWellBy_1 (by decide) (fun c1 => ?_) (fun c1 => ?_)
  ·
    refine V_iconst 0 d_Mod_isWellBy_13 (by decide) ?_
    exact V_zret rfl (by decide) d_Mod_isWellBy_14 ⟨0, rfl, ⟨rfl, (by (try rw [show Int32.toInt 0 = 0 from rfl]); omega)⟩⟩
  ·
    refine V_iload_n 0 d_Mod_isWellBy_4 rfl rfl ?_
    refine V_iload_n 1 d_Mod_isWellBy_5 rfl rfl ?_
    refine V_icmp_gt 13 aE bE d_Mod_isWellBy_6 (by decide) (fun c2 => ?_) (fun c2 => ?_)
    ·
      refine V_iconst 0 d_Mod_isWellBy_13 (by decide) ?_
      exact V_zret rfl (by decide) d_Mod_isWellBy_14 ⟨0, rfl, ⟨rfl, (by (try rw [show Int32.toInt 0 = 0 from rfl]); omega)⟩⟩
    ·
      refine V_iconst 1 d_Mod_isWellBy_9 (by decide) ?_
      refine V_goto 14 d_Mod_isWellBy_10 (by decide) ?_
      exact V_zret rfl (by decide) d_Mod_isWellBy_14 ⟨1, rfl, ⟨rfl, (by (try rw [show Int32.toInt 1 = 1 from rfl]); omega)⟩⟩
theorem d_Mod_isWell_0 : decode b_Mod_isWell 0 = .ok (.aload_n 0, 1) := dc_42 (by decide +kernel)
theorem d_Mod_isWell_1 : decode b_Mod_isWell 1 = .ok (.getfield 7, 3) := dc_180 (a := 0) (b := 7) (by decide +kernel) rfl
theorem d_Mod_isWell_4 : decode b_Mod_isWell 4 = .ok (.iconst 0, 1) := dc_3 (by decide +kernel)
theorem d_Mod_isWell_5 : decode b_Mod_isWell 5 = .ok (.iload_n 1, 1) := dc_27 (by decide +kernel)
theorem d_Mod_isWell_6 : decode b_Mod_isWell 6 = .ok (.iadd, 1) := dc_96 (by decide +kernel)
theorem d_Mod_isWell_7 : decode b_Mod_isWell 7 = .ok (.iaload, 1) := dc_46 (by decide +kernel)
theorem d_Mod_isWell_8 : decode b_Mod_isWell 8 = .ok (.aload_n 0, 1) := dc_42 (by decide +kernel)
theorem d_Mod_isWell_9 : decode b_Mod_isWell 9 = .ok (.getfield 7, 3) := dc_180 (a := 0) (b := 7) (by decide +kernel) rfl
theorem d_Mod_isWell_12 : decode b_Mod_isWell 12 = .ok (.bipush 64, 2) := dc_16 (a := 64) (by decide +kernel) rfl
theorem d_Mod_isWell_14 : decode b_Mod_isWell 14 = .ok (.iload_n 1, 1) := dc_27 (by decide +kernel)
theorem d_Mod_isWell_15 : decode b_Mod_isWell 15 = .ok (.iadd, 1) := dc_96 (by decide +kernel)
theorem d_Mod_isWell_16 : decode b_Mod_isWell 16 = .ok (.iaload, 1) := dc_46 (by decide +kernel)
theorem d_Mod_isWell_17 : decode b_Mod_isWell 17 = .ok (.invokestatic 188, 3) := dc_184 (a := 0) (b := 188) (by decide +kernel) rfl
theorem d_Mod_isWell_20 : decode b_Mod_isWell 20 = .ok (.ireturn, 1) := dc_172 (by decide +kernel)
abbrev q_Mod_isWell (h : Hp) (c : Int32) (cZ : Int) : Option Value → Hp → Prop := pInt (fun r h' => h = h' ∧ (r.toInt = 0 ∨ r.toInt = 1))
set_option maxRecDepth 100000 in
theorem c_Mod_isWell (h : Hp) (hI : Inv h) (c : Int32) (cZ : Int) (cE : c.toInt = cZ) (hy0 : 0 ≤ cZ ∧ cZ ≤ 15) : Ct y_Mod_isWell b_Mod_isWell 2 (some .boolean) 1 21 [.ref 116, .int c] h (q_Mod_isWell h c cZ) := by
  refine ct_ow R_Mod [some (.ref 116), some (.int c)] rfl (by decide) rfl (Nat.le_of_ble_eq_true rfl) ?_
  have f0 : fr [] h h := fr_rf
  refine V_aload_n 0 d_Mod_isWell_0 rfl rfl ?_
  refine V_getR fa_Mod_7 sk_116 rfl d_Mod_isWell_1 ?_
  refine V_iconst 0 d_Mod_isWell_4 (by decide) ?_
  refine V_iload_n 1 d_Mod_isWell_5 rfl rfl ?_
  refine V_iadd tc_0 cE (by (first | decide +kernel | omega)) d_Mod_isWell_6 (fun z1 z1e z1E => ?_)
  refine N_iald sk_117 z1E (by (first | decide +kernel | omega)) d_Mod_isWell_7 (fun z2 z2Z z2E z2e => ?_)
  refine V_aload_n 0 d_Mod_isWell_8 rfl rfl ?_
  refine V_getR fa_Mod_7 sk_116 rfl d_Mod_isWell_9 ?_
  refine V_bipush 64 d_Mod_isWell_12 (by decide) ?_
  refine V_iload_n 1 d_Mod_isWell_14 rfl rfl ?_
  refine V_iadd tc_64 cE (by (first | decide +kernel | omega)) d_Mod_isWell_15 (fun z3 z3e z3E => ?_)
  refine N_iald sk_117 z3E (by (first | decide +kernel | omega)) d_Mod_isWell_16 (fun z4 z4Z z4E z4e => ?_)
  refine N_callSI [.int z2, .int z4] [] cs_Mod_188 d_Mod_isWell_17 rfl (Nat.le_of_ble_eq_true rfl) (by decide) (by decide) (c_Mod_isWellBy h z2 z2Z z2E z4 z4Z z4E) (fun z5 h6 z5Z z5E p7 => ?_)
  obtain ⟨eh6, p7⟩ := p7
  subst eh6
  exact V_zret rfl (by rw [z5E]; omega) d_Mod_isWell_20 ⟨z5, rfl, ⟨rfl, (by (try rw [z5E]); omega)⟩⟩
theorem d_Mod_feed_0 : decode b_Mod_feed 0 = .ok (.iload_n 1, 1) := dc_27 (by decide +kernel)
theorem d_Mod_feed_1 : decode b_Mod_feed 1 = .ok (.i2l, 1) := dc_133 (by decide +kernel)
theorem d_Mod_feed_2 : decode b_Mod_feed 2 = .ok (.lconst 0, 1) := dc_9 (by decide +kernel)
theorem d_Mod_feed_3 : decode b_Mod_feed 3 = .ok (.ldc2_w 93, 3) := dc_20 (a := 0) (b := 93) (by decide +kernel) rfl
theorem d_Mod_feed_6 : decode b_Mod_feed 6 = .ok (.invokestatic 95, 3) := dc_184 (a := 0) (b := 95) (by decide +kernel) rfl
theorem d_Mod_feed_9 : decode b_Mod_feed 9 = .ok (.ifCond .ne 5, 3) := dc_154 (a := 0) (b := 5) (by decide +kernel) rfl
theorem d_Mod_feed_12 : decode b_Mod_feed 12 = .ok (.iconst (-1), 1) := dc_2 (by decide +kernel)
theorem d_Mod_feed_13 : decode b_Mod_feed 13 = .ok (.ireturn, 1) := dc_172 (by decide +kernel)
theorem d_Mod_feed_14 : decode b_Mod_feed 14 = .ok (.aload_n 0, 1) := dc_42 (by decide +kernel)
theorem d_Mod_feed_15 : decode b_Mod_feed 15 = .ok (.getfield 99, 3) := dc_180 (a := 0) (b := 99) (by decide +kernel) rfl
theorem d_Mod_feed_18 : decode b_Mod_feed 18 = .ok (.sipush 160, 3) := dc_17 (a := 0) (b := 160) (by decide +kernel) rfl
theorem d_Mod_feed_21 : decode b_Mod_feed 21 = .ok (.if_icmp .ne 6, 3) := dc_160 (a := 0) (b := 6) (by decide +kernel) rfl
theorem d_Mod_feed_24 : decode b_Mod_feed 24 = .ok (.bipush (-3), 2) := dc_16 (a := 253) (by decide +kernel) rfl
theorem d_Mod_feed_26 : decode b_Mod_feed 26 = .ok (.ireturn, 1) := dc_172 (by decide +kernel)
theorem d_Mod_feed_27 : decode b_Mod_feed 27 = .ok (.aload_n 0, 1) := dc_42 (by decide +kernel)
theorem d_Mod_feed_28 : decode b_Mod_feed 28 = .ok (.getfield 23, 3) := dc_180 (a := 0) (b := 23) (by decide +kernel) rfl
theorem d_Mod_feed_31 : decode b_Mod_feed 31 = .ok (.aload_n 0, 1) := dc_42 (by decide +kernel)
theorem d_Mod_feed_32 : decode b_Mod_feed 32 = .ok (.getfield 99, 3) := dc_180 (a := 0) (b := 99) (by decide +kernel) rfl
theorem d_Mod_feed_35 : decode b_Mod_feed 35 = .ok (.iload_n 1, 1) := dc_27 (by decide +kernel)
theorem d_Mod_feed_36 : decode b_Mod_feed 36 = .ok (.iastore, 1) := dc_79 (by decide +kernel)
theorem d_Mod_feed_37 : decode b_Mod_feed 37 = .ok (.aload_n 0, 1) := dc_42 (by decide +kernel)
theorem d_Mod_feed_38 : decode b_Mod_feed 38 = .ok (.dup, 1) := dc_89 (by decide +kernel)
theorem d_Mod_feed_39 : decode b_Mod_feed 39 = .ok (.getfield 99, 3) := dc_180 (a := 0) (b := 99) (by decide +kernel) rfl
theorem d_Mod_feed_42 : decode b_Mod_feed 42 = .ok (.iconst 1, 1) := dc_4 (by decide +kernel)
theorem d_Mod_feed_43 : decode b_Mod_feed 43 = .ok (.iadd, 1) := dc_96 (by decide +kernel)
theorem d_Mod_feed_44 : decode b_Mod_feed 44 = .ok (.putfield 99, 3) := dc_181 (a := 0) (b := 99) (by decide +kernel) rfl
theorem d_Mod_feed_47 : decode b_Mod_feed 47 = .ok (.aload_n 0, 1) := dc_42 (by decide +kernel)
theorem d_Mod_feed_48 : decode b_Mod_feed 48 = .ok (.getfield 99, 3) := dc_180 (a := 0) (b := 99) (by decide +kernel) rfl
theorem d_Mod_feed_51 : decode b_Mod_feed 51 = .ok (.ireturn, 1) := dc_172 (by decide +kernel)
theorem d_Mod_end_0 : decode b_Mod_end 0 = .ok (.iload_n 1, 1) := dc_27 (by decide +kernel)
theorem d_Mod_end_1 : decode b_Mod_end 1 = .ok (.i2l, 1) := dc_133 (by decide +kernel)
theorem d_Mod_end_2 : decode b_Mod_end 2 = .ok (.lconst 0, 1) := dc_9 (by decide +kernel)
theorem d_Mod_end_3 : decode b_Mod_end 3 = .ok (.aload_n 0, 1) := dc_42 (by decide +kernel)
theorem d_Mod_end_4 : decode b_Mod_end 4 = .ok (.getfield 99, 3) := dc_180 (a := 0) (b := 99) (by decide +kernel) rfl
theorem d_Mod_end_7 : decode b_Mod_end 7 = .ok (.i2l, 1) := dc_133 (by decide +kernel)
theorem d_Mod_end_8 : decode b_Mod_end 8 = .ok (.invokestatic 95, 3) := dc_184 (a := 0) (b := 95) (by decide +kernel) rfl
theorem d_Mod_end_11 : decode b_Mod_end 11 = .ok (.ifCond .ne 5, 3) := dc_154 (a := 0) (b := 5) (by decide +kernel) rfl
theorem d_Mod_end_14 : decode b_Mod_end 14 = .ok (.iconst (-1), 1) := dc_2 (by decide +kernel)
theorem d_Mod_end_15 : decode b_Mod_end 15 = .ok (.ireturn, 1) := dc_172 (by decide +kernel)
theorem d_Mod_end_16 : decode b_Mod_end 16 = .ok (.aload_n 0, 1) := dc_42 (by decide +kernel)
theorem d_Mod_end_17 : decode b_Mod_end 17 = .ok (.getfield 99, 3) := dc_180 (a := 0) (b := 99) (by decide +kernel) rfl
theorem d_Mod_end_20 : decode b_Mod_end 20 = .ok (.istore_n 2, 1) := dc_61 (by decide +kernel)
theorem d_Mod_end_21 : decode b_Mod_end 21 = .ok (.aload_n 0, 1) := dc_42 (by decide +kernel)
theorem d_Mod_end_22 : decode b_Mod_end 22 = .ok (.iload_n 1, 1) := dc_27 (by decide +kernel)
theorem d_Mod_end_23 : decode b_Mod_end 23 = .ok (.putfield 99, 3) := dc_181 (a := 0) (b := 99) (by decide +kernel) rfl
theorem d_Mod_end_26 : decode b_Mod_end 26 = .ok (.iload_n 2, 1) := dc_28 (by decide +kernel)
theorem d_Mod_end_27 : decode b_Mod_end 27 = .ok (.ireturn, 1) := dc_172 (by decide +kernel)
def S_Mod_end : List (Nat × Option Nat) := [(116, some 15)]
abbrev q_Mod_end (h : Hp) (n : Int32) (nZ : Int) (t : Int32) (tZ : Int) : Option Value → Hp → Prop := pInt (fun r h' => Inv h' ∧ fr S_Mod_end h h' ∧ ∃ (u : Int32) (uZ : Int), u.toInt = uZ ∧ h'.1 116 15 = u ∧ (0 ≤ nZ ∧ nZ ≤ tZ ∧ uZ = nZ ∧ r.toInt = tZ ∨ (nZ < 0 ∨ tZ < nZ) ∧ uZ = tZ ∧ r.toInt = -1))
set_option maxRecDepth 100000 in
theorem c_Mod_end (h : Hp) (hI : Inv h) (n : Int32) (nZ : Int) (nE : n.toInt = nZ) (t : Int32) (tZ : Int) (tE : t.toInt = tZ) (tK : h.1 116 15 = t) : Ct y_Mod_end b_Mod_end 3 (some .int) 1 25 [.ref 116, .int n] h (q_Mod_end h n nZ t tZ) := by
  refine ct_ow R_Mod [some (.ref 116), some (.int n), none] rfl (by decide) rfl (Nat.le_of_ble_eq_true rfl) ?_
  have f0 : fr S_Mod_end h h := fr_rf
  have g1 : 0 ≤ tZ ∧ tZ ≤ 160 := inv_at hI tE tK.symm rfl
  refine V_iload_n 1 d_Mod_end_0 rfl rfl ?_
  refine V_i2l d_Mod_end_1 (fun z2 z2e z2E => ?_)
  have z2F : z2.toInt = nZ := z2E.trans nE
  refine V_lconst 0 d_Mod_end_2 (by decide) ?_
  refine V_aload_n 0 d_Mod_end_3 rfl rfl ?_
  refine N_getK fa_Mod_99 sk_116 rfl d_Mod_end_4 tK ?_
  refine V_i2l d_Mod_end_7 (fun z3 z3e z3E => ?_)
  have z3F : z3.toInt = tZ := z3E.trans tE
  refine N_callSI [.long z2, .long 0, .long z3] [] cs_Mod_95 d_Mod_end_8 rfl (Nat.le_of_ble_eq_true rfl) (by decide) (by decide) (c_Mod_in h z2 nZ z2F 0 0 tl_0 z3 tZ z3F) (fun z4 h5 z4Z z4E p6 => ?_)
  obtain ⟨eh5, p6⟩ := p6
  subst eh5
  refine V_if_ne 16 z4E d_Mod_end_11 (by decide) (fun c7 => ?_) (fun c7 => ?_)
  ·
    refine V_aload_n 0 d_Mod_end_16 rfl rfl ?_
    refine N_getK fa_Mod_99 sk_116 rfl d_Mod_end_17 tK ?_
    refine V_istore_n 2 [some (.ref 116), some (.int n), some (.int t)] d_Mod_end_20 rfl (by decide) rfl rfl ?_
    refine V_aload_n 0 d_Mod_end_21 rfl rfl ?_
    refine V_iload_n 1 d_Mod_end_22 rfl rfl ?_
    refine N_putI fp_Mod_99 sk_116 rfl d_Mod_end_23 (fun h8 eh8 => ?_)
    have hI9 : Inv h8 := inv_put (lo := 0) (hi := 160) hI eh8 rfl nE (by (first | decide +kernel | omega))
    have f10 : fr S_Mod_end h h8 := fr_put f0 eh8 rfl
    refine V_iload_n 2 d_Mod_end_26 rfl rfl ?_
    exact V_iret rfl d_Mod_end_27 ⟨t, rfl, ⟨hI9, f10, n, nZ, nE, (kn_put eh8), (by (try rw [tE]); omega)⟩⟩
  ·
    refine V_iconst (-1) d_Mod_end_14 (by decide) ?_
    exact V_iret rfl d_Mod_end_15 ⟨(-1), rfl, ⟨hI, f0, t, tZ, tE, tK, (by (try rw [show Int32.toInt (-1) = (-1) from rfl]); omega)⟩⟩
theorem d_Mod_fault_0 : decode b_Mod_fault 0 = .ok (.aload_n 0, 1) := dc_42 (by decide +kernel)
theorem d_Mod_fault_1 : decode b_Mod_fault 1 = .ok (.getfield 102, 3) := dc_180 (a := 0) (b := 102) (by decide +kernel) rfl
theorem d_Mod_fault_4 : decode b_Mod_fault 4 = .ok (.ireturn, 1) := dc_172 (by decide +kernel)
theorem d_Mod_torn_0 : decode b_Mod_torn 0 = .ok (.aload_n 0, 1) := dc_42 (by decide +kernel)
theorem d_Mod_torn_1 : decode b_Mod_torn 1 = .ok (.getfield 328, 3) := dc_180 (a := 1) (b := 72) (by decide +kernel) rfl
theorem d_Mod_torn_4 : decode b_Mod_torn 4 = .ok (.ireturn, 1) := dc_172 (by decide +kernel)
abbrev q_Mod_torn (h : Hp)  : Option Value → Hp → Prop := pInt (fun r h' => h = h')
set_option maxRecDepth 100000 in
theorem c_Mod_torn (h : Hp) (hI : Inv h) : Ct y_Mod_torn b_Mod_torn 1 (some .int) 0 0 [.ref 116] h (q_Mod_torn h ) := by
  refine ct_ow R_Mod [some (.ref 116)] rfl (by decide) rfl (Nat.le_of_ble_eq_true rfl) ?_
  have f0 : fr [] h h := fr_rf
  refine V_aload_n 0 d_Mod_torn_0 rfl rfl ?_
  refine N_getI fa_Mod_328 sk_116 rfl d_Mod_torn_1 (fun z1 z1Z z1E z1e => ?_)
  exact V_iret rfl d_Mod_torn_4 ⟨z1, rfl, rfl⟩
theorem d_Mod_rule_0 : decode b_Mod_rule 0 = .ok (.iload_n 1, 1) := dc_27 (by decide +kernel)
theorem d_Mod_rule_1 : decode b_Mod_rule 1 = .ok (.tableswitch 87 0 6 #[43, 48, 53, 58, 63, 71, 79], 43) := by decide +kernel
theorem d_Mod_rule_44 : decode b_Mod_rule 44 = .ok (.aload_n 0, 1) := dc_42 (by decide +kernel)
theorem d_Mod_rule_45 : decode b_Mod_rule 45 = .ok (.getfield 81, 3) := dc_180 (a := 0) (b := 81) (by decide +kernel) rfl
theorem d_Mod_rule_48 : decode b_Mod_rule 48 = .ok (.ireturn, 1) := dc_172 (by decide +kernel)
theorem d_Mod_rule_49 : decode b_Mod_rule 49 = .ok (.aload_n 0, 1) := dc_42 (by decide +kernel)
theorem d_Mod_rule_50 : decode b_Mod_rule 50 = .ok (.getfield 84, 3) := dc_180 (a := 0) (b := 84) (by decide +kernel) rfl
theorem d_Mod_rule_53 : decode b_Mod_rule 53 = .ok (.ireturn, 1) := dc_172 (by decide +kernel)
theorem d_Mod_rule_54 : decode b_Mod_rule 54 = .ok (.aload_n 0, 1) := dc_42 (by decide +kernel)
theorem d_Mod_rule_55 : decode b_Mod_rule 55 = .ok (.getfield 87, 3) := dc_180 (a := 0) (b := 87) (by decide +kernel) rfl
theorem d_Mod_rule_58 : decode b_Mod_rule 58 = .ok (.ireturn, 1) := dc_172 (by decide +kernel)
theorem d_Mod_rule_59 : decode b_Mod_rule 59 = .ok (.aload_n 0, 1) := dc_42 (by decide +kernel)
theorem d_Mod_rule_60 : decode b_Mod_rule 60 = .ok (.getfield 90, 3) := dc_180 (a := 0) (b := 90) (by decide +kernel) rfl
theorem d_Mod_rule_63 : decode b_Mod_rule 63 = .ok (.ireturn, 1) := dc_172 (by decide +kernel)
theorem d_Mod_rule_64 : decode b_Mod_rule 64 = .ok (.aload_n 0, 1) := dc_42 (by decide +kernel)
theorem d_Mod_rule_65 : decode b_Mod_rule 65 = .ok (.getfield 7, 3) := dc_180 (a := 0) (b := 7) (by decide +kernel) rfl
theorem d_Mod_rule_68 : decode b_Mod_rule 68 = .ok (.bipush 84, 2) := dc_16 (a := 84) (by decide +kernel) rfl
theorem d_Mod_rule_70 : decode b_Mod_rule 70 = .ok (.iaload, 1) := dc_46 (by decide +kernel)
theorem d_Mod_rule_71 : decode b_Mod_rule 71 = .ok (.ireturn, 1) := dc_172 (by decide +kernel)
theorem d_Mod_rule_72 : decode b_Mod_rule 72 = .ok (.aload_n 0, 1) := dc_42 (by decide +kernel)
theorem d_Mod_rule_73 : decode b_Mod_rule 73 = .ok (.getfield 7, 3) := dc_180 (a := 0) (b := 7) (by decide +kernel) rfl
theorem d_Mod_rule_76 : decode b_Mod_rule 76 = .ok (.bipush 85, 2) := dc_16 (a := 85) (by decide +kernel) rfl
theorem d_Mod_rule_78 : decode b_Mod_rule 78 = .ok (.iaload, 1) := dc_46 (by decide +kernel)
theorem d_Mod_rule_79 : decode b_Mod_rule 79 = .ok (.ireturn, 1) := dc_172 (by decide +kernel)
theorem d_Mod_rule_80 : decode b_Mod_rule 80 = .ok (.aload_n 0, 1) := dc_42 (by decide +kernel)
theorem d_Mod_rule_81 : decode b_Mod_rule 81 = .ok (.getfield 7, 3) := dc_180 (a := 0) (b := 7) (by decide +kernel) rfl
theorem d_Mod_rule_84 : decode b_Mod_rule 84 = .ok (.bipush 86, 2) := dc_16 (a := 86) (by decide +kernel) rfl
theorem d_Mod_rule_86 : decode b_Mod_rule 86 = .ok (.iaload, 1) := dc_46 (by decide +kernel)
theorem d_Mod_rule_87 : decode b_Mod_rule 87 = .ok (.ireturn, 1) := dc_172 (by decide +kernel)
theorem d_Mod_rule_88 : decode b_Mod_rule 88 = .ok (.iconst (-1), 1) := dc_2 (by decide +kernel)
theorem d_Mod_rule_89 : decode b_Mod_rule 89 = .ok (.ireturn, 1) := dc_172 (by decide +kernel)
theorem d_Mod_purse_0 : decode b_Mod_purse 0 = .ok (.iload_n 1, 1) := dc_27 (by decide +kernel)
theorem d_Mod_purse_1 : decode b_Mod_purse 1 = .ok (.invokestatic 205, 3) := dc_184 (a := 0) (b := 205) (by decide +kernel) rfl
theorem d_Mod_purse_4 : decode b_Mod_purse 4 = .ok (.ifCond .eq 15, 3) := dc_153 (a := 0) (b := 15) (by decide +kernel) rfl
theorem d_Mod_purse_7 : decode b_Mod_purse 7 = .ok (.aload_n 0, 1) := dc_42 (by decide +kernel)
theorem d_Mod_purse_8 : decode b_Mod_purse 8 = .ok (.getfield 7, 3) := dc_180 (a := 0) (b := 7) (by decide +kernel) rfl
theorem d_Mod_purse_11 : decode b_Mod_purse 11 = .ok (.bipush 80, 2) := dc_16 (a := 80) (by decide +kernel) rfl
theorem d_Mod_purse_13 : decode b_Mod_purse 13 = .ok (.iload_n 1, 1) := dc_27 (by decide +kernel)
theorem d_Mod_purse_14 : decode b_Mod_purse 14 = .ok (.iadd, 1) := dc_96 (by decide +kernel)
theorem d_Mod_purse_15 : decode b_Mod_purse 15 = .ok (.iaload, 1) := dc_46 (by decide +kernel)
theorem d_Mod_purse_16 : decode b_Mod_purse 16 = .ok (.goto 4, 3) := dc_167 (a := 0) (b := 4) (by decide +kernel) rfl
theorem d_Mod_purse_19 : decode b_Mod_purse 19 = .ok (.iconst (-1), 1) := dc_2 (by decide +kernel)
theorem d_Mod_purse_20 : decode b_Mod_purse 20 = .ok (.ireturn, 1) := dc_172 (by decide +kernel)
