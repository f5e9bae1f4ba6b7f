section
theorem fl_Mod_62 : Cond.fieldLink R_Mod 62 (T_Mod 7).1 (T_Mod 7).2.1 (T_Mod 7).2.2.1 ∈ vv_G := vv_Gin (List.mem_append_right _ (List.mem_append_right _ (List.mem_append_right _ (List.mem_append_right _ (List.mem_append_left _ (List.mem_of_getElem? (i := 230) rfl)))))) rfl
theorem fl_Mod_66 : Cond.fieldLink R_Mod 66 (T_Mod 8).1 (T_Mod 8).2.1 (T_Mod 8).2.2.1 ∈ vv_G := vv_Gin (List.mem_append_right _ (List.mem_append_right _ (List.mem_append_right _ (List.mem_append_right _ (List.mem_append_left _ (List.mem_of_getElem? (i := 231) rfl)))))) rfl
theorem fl_Mod_69 : Cond.fieldLink R_Mod 69 (T_Mod 9).1 (T_Mod 9).2.1 (T_Mod 9).2.2.1 ∈ vv_G := vv_Gin (List.mem_append_right _ (List.mem_append_right _ (List.mem_append_right _ (List.mem_append_right _ (List.mem_append_left _ (List.mem_of_getElem? (i := 232) rfl)))))) rfl
theorem fl_Mod_72 : Cond.fieldLink R_Mod 72 (T_Mod 10).1 (T_Mod 10).2.1 (T_Mod 10).2.2.1 ∈ vv_G := vv_Gin (List.mem_append_right _ (List.mem_append_right _ (List.mem_append_right _ (List.mem_append_right _ (List.mem_append_left _ (List.mem_of_getElem? (i := 233) rfl)))))) rfl
theorem fl_Mod_75 : Cond.fieldLink R_Mod 75 (T_Mod 11).1 (T_Mod 11).2.1 (T_Mod 11).2.2.1 ∈ vv_G := vv_Gin (List.mem_append_right _ (List.mem_append_right _ (List.mem_append_right _ (List.mem_append_right _ (List.mem_append_left _ (List.mem_of_getElem? (i := 234) rfl)))))) rfl
theorem fl_Mod_78 : Cond.fieldLink R_Mod 78 (T_Mod 13).1 (T_Mod 13).2.1 (T_Mod 13).2.2.1 ∈ vv_G := vv_Gin (List.mem_append_right _ (List.mem_append_right _ (List.mem_append_right _ (List.mem_append_right _ (List.mem_append_left _ (List.mem_of_getElem? (i := 236) rfl)))))) rfl
theorem fl_Mod_81 : Cond.fieldLink R_Mod 81 (T_Mod 2).1 (T_Mod 2).2.1 (T_Mod 2).2.2.1 ∈ vv_G := vv_Gin (List.mem_append_right _ (List.mem_append_right _ (List.mem_append_right _ (List.mem_append_right _ (List.mem_append_left _ (List.mem_of_getElem? (i := 225) rfl)))))) rfl
theorem fl_Mod_84 : Cond.fieldLink R_Mod 84 (T_Mod 3).1 (T_Mod 3).2.1 (T_Mod 3).2.2.1 ∈ vv_G := vv_Gin (List.mem_append_right _ (List.mem_append_right _ (List.mem_append_right _ (List.mem_append_right _ (List.mem_append_left _ (List.mem_of_getElem? (i := 226) rfl)))))) rfl
theorem fl_Mod_87 : Cond.fieldLink R_Mod 87 (T_Mod 4).1 (T_Mod 4).2.1 (T_Mod 4).2.2.1 ∈ vv_G := vv_Gin (List.mem_append_right _ (List.mem_append_right _ (List.mem_append_right _ (List.mem_append_right _ (List.mem_append_left _ (List.mem_of_getElem? (i := 227) rfl)))))) rfl
theorem fl_Mod_90 : Cond.fieldLink R_Mod 90 (T_Mod 5).1 (T_Mod 5).2.1 (T_Mod 5).2.2.1 ∈ vv_G := vv_Gin (List.mem_append_right _ (List.mem_append_right _ (List.mem_append_right _ (List.mem_append_right _ (List.mem_append_left _ (List.mem_of_getElem? (i := 228) rfl)))))) rfl
theorem wo_Mod_1 : Cond.methodLink R_Mod 1 objectInit ∈ vv_G := vv_Gin (List.mem_append_right _ (List.mem_append_right _ (List.mem_append_right _ (List.mem_append_right _ (List.mem_append_left _ (List.mem_of_getElem? (i := 214) (by decide +kernel))))))) (by decide +kernel)
theorem fl_Mod_7 : Cond.fieldLink R_Mod 7 (T_Mod 0).1 (T_Mod 0).2.1 (T_Mod 0).2.2.1 ∈ vv_G := vv_Gin (List.mem_append_right _ (List.mem_append_right _ (List.mem_append_right _ (List.mem_append_right _ (List.mem_append_left _ (List.mem_of_getElem? (i := 223) rfl)))))) rfl
theorem fl_Mod_13 : Cond.fieldLink R_Mod 13 (T_Mod 1).1 (T_Mod 1).2.1 (T_Mod 1).2.2.1 ∈ vv_G := vv_Gin (List.mem_append_right _ (List.mem_append_right _ (List.mem_append_right _ (List.mem_append_right _ (List.mem_append_left _ (List.mem_of_getElem? (i := 224) rfl)))))) rfl
theorem fl_Mod_17 : Cond.fieldLink R_Mod 17 (T_Mod 6).1 (T_Mod 6).2.1 (T_Mod 6).2.2.1 ∈ vv_G := vv_Gin (List.mem_append_right _ (List.mem_append_right _ (List.mem_append_right _ (List.mem_append_right _ (List.mem_append_left _ (List.mem_of_getElem? (i := 229) rfl)))))) rfl
theorem fl_Mod_20 : Cond.fieldLink R_Mod 20 (T_Mod 12).1 (T_Mod 12).2.1 (T_Mod 12).2.2.1 ∈ vv_G := vv_Gin (List.mem_append_right _ (List.mem_append_right _ (List.mem_append_right _ (List.mem_append_right _ (List.mem_append_left _ (List.mem_of_getElem? (i := 235) rfl)))))) rfl
theorem fl_Mod_23 : Cond.fieldLink R_Mod 23 (T_Mod 14).1 (T_Mod 14).2.1 (T_Mod 14).2.2.1 ∈ vv_G := vv_Gin (List.mem_append_right _ (List.mem_append_right _ (List.mem_append_right _ (List.mem_append_right _ (List.mem_append_left _ (List.mem_of_getElem? (i := 237) rfl)))))) rfl
theorem fl_Mod_26 : Cond.fieldLink R_Mod 26 (T_Mod 22).1 (T_Mod 22).2.1 (T_Mod 22).2.2.1 ∈ vv_G := vv_Gin (List.mem_append_right _ (List.mem_append_right _ (List.mem_append_right _ (List.mem_append_right _ (List.mem_append_right _ (List.mem_append_left _ (List.mem_of_getElem? (i := 5) rfl))))))) rfl
theorem fl_Mod_29 : Cond.fieldLink R_Mod 29 (T_Mod 23).1 (T_Mod 23).2.1 (T_Mod 23).2.2.1 ∈ vv_G := vv_Gin (List.mem_append_right _ (List.mem_append_right _ (List.mem_append_right _ (List.mem_append_right _ (List.mem_append_right _ (List.mem_append_left _ (List.mem_of_getElem? (i := 6) rfl))))))) rfl
theorem fl_Mod_32 : Cond.fieldLink R_Mod 32 (T_Mod 24).1 (T_Mod 24).2.1 (T_Mod 24).2.2.1 ∈ vv_G := vv_Gin (List.mem_append_right _ (List.mem_append_right _ (List.mem_append_right _ (List.mem_append_right _ (List.mem_append_right _ (List.mem_append_left _ (List.mem_of_getElem? (i := 7) rfl))))))) rfl
theorem fl_Mod_35 : Cond.fieldLink R_Mod 35 (T_Mod 27).1 (T_Mod 27).2.1 (T_Mod 27).2.2.1 ∈ vv_G := vv_Gin (List.mem_append_right _ (List.mem_append_right _ (List.mem_append_right _ (List.mem_append_right _ (List.mem_append_right _ (List.mem_append_left _ (List.mem_of_getElem? (i := 10) rfl))))))) rfl
theorem fl_Mod_38 : Cond.fieldLink R_Mod 38 (T_Mod 29).1 (T_Mod 29).2.1 (T_Mod 29).2.2.1 ∈ vv_G := vv_Gin (List.mem_append_right _ (List.mem_append_right _ (List.mem_append_right _ (List.mem_append_right _ (List.mem_append_right _ (List.mem_append_left _ (List.mem_of_getElem? (i := 12) rfl))))))) rfl
theorem fl_Mod_41 : Cond.fieldLink R_Mod 41 (T_Mod 31).1 (T_Mod 31).2.1 (T_Mod 31).2.2.1 ∈ vv_G := vv_Gin (List.mem_append_right _ (List.mem_append_right _ (List.mem_append_right _ (List.mem_append_right _ (List.mem_append_right _ (List.mem_append_left _ (List.mem_of_getElem? (i := 14) rfl))))))) rfl
theorem fl_Mod_44 : Cond.fieldLink R_Mod 44 (T_Mod 32).1 (T_Mod 32).2.1 (T_Mod 32).2.2.1 ∈ vv_G := vv_Gin (List.mem_append_right _ (List.mem_append_right _ (List.mem_append_right _ (List.mem_append_right _ (List.mem_append_right _ (List.mem_append_left _ (List.mem_of_getElem? (i := 15) rfl))))))) rfl
theorem fl_Mod_47 : Cond.fieldLink R_Mod 47 (T_Mod 33).1 (T_Mod 33).2.1 (T_Mod 33).2.2.1 ∈ vv_G := vv_Gin (List.mem_append_right _ (List.mem_append_right _ (List.mem_append_right _ (List.mem_append_right _ (List.mem_append_right _ (List.mem_append_left _ (List.mem_of_getElem? (i := 16) rfl))))))) rfl
theorem fl_Mod_50 : Cond.fieldLink R_Mod 50 (T_Mod 34).1 (T_Mod 34).2.1 (T_Mod 34).2.2.1 ∈ vv_G := vv_Gin (List.mem_append_right _ (List.mem_append_right _ (List.mem_append_right _ (List.mem_append_right _ (List.mem_append_right _ (List.mem_append_left _ (List.mem_of_getElem? (i := 17) rfl))))))) rfl
theorem fl_Mod_53 : Cond.fieldLink R_Mod 53 (T_Mod 36).1 (T_Mod 36).2.1 (T_Mod 36).2.2.1 ∈ vv_G := vv_Gin (List.mem_append_right _ (List.mem_append_right _ (List.mem_append_right _ (List.mem_append_right _ (List.mem_append_right _ (List.mem_append_left _ (List.mem_of_getElem? (i := 19) rfl))))))) rfl
theorem dr1_0 (i : Nat) : (0 : Int32) = dr1 0 i := by
  unfold dr1
  rw [if_neg (by (first | decide +kernel | omega)), if_neg (by (first | decide +kernel | omega))]
theorem dr1_85 (j : Nat) : upd (dr1 16) 85 9 j = dr0 j := by
  unfold upd dr1 dr0
  by_cases h : j = 85
  · rw [if_pos h]
  · rw [if_neg h]
set_option maxRecDepth 100000 in
theorem k_Mod_firstDraft (D : va_G) (ca : Nat → ClassId) (a0 : Nat) (a1 : Nat) (a2 : Nat) (a3 : Nat) (a4 : Nat) (a5 : Nat) (a6 : Nat) (a7 : Nat) (a8 : Nat) (a9 : Nat) (a10 : Nat) (a11 : Nat) (a12 : Nat) (a13 : Nat) (a14 : Nat) (a15 : Nat) : Cu y_Mod_firstDraft b_Mod_firstDraft 2 0 0 0 0 D ca [.ref a0] [(a0, .inr (11, [.ref a1, .ref a2, .int 0, .int 0, .int 0, .int 0, .ref a3, .int 0, .int 0, .int 0, .int 0, .int 0, .ref a4, .int 0, .ref a5, .int 0, .int 0, .int 0, .int 0, .int 0, .int 0, .int 0, .ref a6, .ref a7, .ref a8, .int 0, .long 0, .ref a9, .int 0, .ref a10, .int 0, .ref a11, .ref a12, .ref a13, .ref a14, .int 0, .ref a15])), (a1, .inl (ca 0, 432, .inl (fun _ => 0))), (a2, .inl (ca 2, 2, .inl (fun _ => 0))), (a3, .inl (ca 0, 144, .inl (fun _ => 0))), (a4, .inl (ca 0, 6, .inl (fun _ => 0))), (a5, .inl (ca 0, 160, .inl (fun _ => 0))), (a6, .inl (ca 0, 128, .inl (fun _ => 0))), (a7, .inl (ca 0, 4, .inl (fun _ => 0))), (a8, .inl (ca 0, 4, .inl (fun _ => 0))), (a9, .inl (ca 0, 48, .inl (fun _ => 0))), (a10, .inl (ca 0, 4, .inl (fun _ => 0))), (a11, .inl (ca 0, 16, .inl (fun _ => 0))), (a12, .inl (ca 0, 4, .inl (fun _ => -4))), (a13, .inl (ca 0, 4, .inl (fun _ => 0))), (a14, .inl (ca 0, 160, .inl (fun _ => 0))), (a15, .inl (ca 0, 20, .inl (fun _ => 0)))] (fun w => w = [(a0, .inr (11, [.ref a1, .ref a2, .int 0, .int 0, .int 0, .int 0, .ref a3, .int 3, .int 3, .int 1, .int 10, .int 0, .ref a4, .int (-4), .ref a5, .int 0, .int 0, .int 0, .int 0, .int 0, .int 0, .int 0, .ref a6, .ref a7, .ref a8, .int 0, .long 0, .ref a9, .int 0, .ref a10, .int 0, .ref a11, .ref a12, .ref a13, .ref a14, .int 0, .ref a15])), (a1, .inl (ca 0, 432, .inl (fun _ => 0))), (a2, .inl (ca 2, 2, .inl (fun _ => 0))), (a3, .inl (ca 0, 144, .inl dr0)), (a4, .inl (ca 0, 6, .inl (fun _ => 0))), (a5, .inl (ca 0, 160, .inl (fun _ => 0))), (a6, .inl (ca 0, 128, .inl (fun _ => 0))), (a7, .inl (ca 0, 4, .inl (fun _ => 0))), (a8, .inl (ca 0, 4, .inl (fun _ => 0))), (a9, .inl (ca 0, 48, .inl (fun _ => 0))), (a10, .inl (ca 0, 4, .inl (fun _ => 0))), (a11, .inl (ca 0, 16, .inl (fun _ => 0))), (a12, .inl (ca 0, 4, .inl (fun _ => -4))), (a13, .inl (ca 0, 4, .inl (fun _ => 0))), (a14, .inl (ca 0, 160, .inl (fun _ => 0))), (a15, .inl (ca 0, 20, .inl (fun _ => 0)))]) := by
  refine cu_of R_Mod false [some (.ref a0), none] rfl (fun q => by cases q) (by decide) rfl (Nat.le_of_ble_eq_true rfl) ?_
  refine U_iconst 0 d_Mod_firstDraft_0 (by decide) ?_
  refine U_istore_n 1 [some (.ref a0), some (.int 0)] d_Mod_firstDraft_1 rfl (by decide) rfl rfl ?_
  refine U_eq (List.set [(a0, .inr (11, [.ref a1, .ref a2, .int 0, .int 0, .int 0, .int 0, .ref a3, .int 0, .int 0, .int 0, .int 0, .int 0, .ref a4, .int 0, .ref a5, .int 0, .int 0, .int 0, .int 0, .int 0, .int 0, .int 0, .ref a6, .ref a7, .ref a8, .int 0, .long 0, .ref a9, .int 0, .ref a10, .int 0, .ref a11, .ref a12, .ref a13, .ref a14, .int 0, .ref a15])), (a1, .inl (ca 0, 432, .inl (fun _ => 0))), (a2, .inl (ca 2, 2, .inl (fun _ => 0))), (a3, .inl (ca 0, 144, .inl (fun _ => 0))), (a4, .inl (ca 0, 6, .inl (fun _ => 0))), (a5, .inl (ca 0, 160, .inl (fun _ => 0))), (a6, .inl (ca 0, 128, .inl (fun _ => 0))), (a7, .inl (ca 0, 4, .inl (fun _ => 0))), (a8, .inl (ca 0, 4, .inl (fun _ => 0))), (a9, .inl (ca 0, 48, .inl (fun _ => 0))), (a10, .inl (ca 0, 4, .inl (fun _ => 0))), (a11, .inl (ca 0, 16, .inl (fun _ => 0))), (a12, .inl (ca 0, 4, .inl (fun _ => -4))), (a13, .inl (ca 0, 4, .inl (fun _ => 0))), (a14, .inl (ca 0, 160, .inl (fun _ => 0))), (a15, .inl (ca 0, 20, .inl (fun _ => 0)))] 3 (a3, .inl (ca 0, 144, .inl (fun _ => 0)))) rfl ?_
  refine l_fd1 a0 a3 3 [.ref a1, .ref a2, .int 0, .int 0, .int 0, .int 0, .ref a3, .int 0, .int 0, .int 0, .int 0, .int 0, .ref a4, .int 0, .ref a5, .int 0, .int 0, .int 0, .int 0, .int 0, .int 0, .int 0, .ref a6, .ref a7, .ref a8, .int 0, .long 0, .ref a9, .int 0, .ref a10, .int 0, .ref a11, .ref a12, .ref a13, .ref a14, .int 0, .ref a15] (by decide) (Nat.le_of_ble_eq_true rfl) rfl rfl (fun g1 hg => ?_) 144 0 0 _ rfl (by decide) (by decide) (fun i hi => absurd hi (by (first | decide +kernel | omega)))
  refine U_row (t := 0) (q0 := 3) (fun _ => 0) rfl hg ?_
  refine U_eq [(a0, .inr (11, [.ref a1, .ref a2, .int 0, .int 0, .int 0, .int 0, .ref a3, .int 0, .int 0, .int 0, .int 0, .int 0, .ref a4, .int 0, .ref a5, .int 0, .int 0, .int 0, .int 0, .int 0, .int 0, .int 0, .ref a6, .ref a7, .ref a8, .int 0, .long 0, .ref a9, .int 0, .ref a10, .int 0, .ref a11, .ref a12, .ref a13, .ref a14, .int 0, .ref a15])), (a1, .inl (ca 0, 432, .inl (fun _ => 0))), (a2, .inl (ca 2, 2, .inl (fun _ => 0))), (a3, .inl (ca 0, 144, .inl (fun _ => 0))), (a4, .inl (ca 0, 6, .inl (fun _ => 0))), (a5, .inl (ca 0, 160, .inl (fun _ => 0))), (a6, .inl (ca 0, 128, .inl (fun _ => 0))), (a7, .inl (ca 0, 4, .inl (fun _ => 0))), (a8, .inl (ca 0, 4, .inl (fun _ => 0))), (a9, .inl (ca 0, 48, .inl (fun _ => 0))), (a10, .inl (ca 0, 4, .inl (fun _ => 0))), (a11, .inl (ca 0, 16, .inl (fun _ => 0))), (a12, .inl (ca 0, 4, .inl (fun _ => -4))), (a13, .inl (ca 0, 4, .inl (fun _ => 0))), (a14, .inl (ca 0, 160, .inl (fun _ => 0))), (a15, .inl (ca 0, 20, .inl (fun _ => 0)))] rfl ?_
  refine U_iconst 0 d_Mod_firstDraft_22 (by decide) ?_
  refine U_istore_n 1 [some (.ref a0), some (.int 0)] d_Mod_firstDraft_23 rfl (by decide) rfl rfl ?_
  refine U_eq (List.set [(a0, .inr (11, [.ref a1, .ref a2, .int 0, .int 0, .int 0, .int 0, .ref a3, .int 0, .int 0, .int 0, .int 0, .int 0, .ref a4, .int 0, .ref a5, .int 0, .int 0, .int 0, .int 0, .int 0, .int 0, .int 0, .ref a6, .ref a7, .ref a8, .int 0, .long 0, .ref a9, .int 0, .ref a10, .int 0, .ref a11, .ref a12, .ref a13, .ref a14, .int 0, .ref a15])), (a1, .inl (ca 0, 432, .inl (fun _ => 0))), (a2, .inl (ca 2, 2, .inl (fun _ => 0))), (a3, .inl (ca 0, 144, .inl (fun _ => 0))), (a4, .inl (ca 0, 6, .inl (fun _ => 0))), (a5, .inl (ca 0, 160, .inl (fun _ => 0))), (a6, .inl (ca 0, 128, .inl (fun _ => 0))), (a7, .inl (ca 0, 4, .inl (fun _ => 0))), (a8, .inl (ca 0, 4, .inl (fun _ => 0))), (a9, .inl (ca 0, 48, .inl (fun _ => 0))), (a10, .inl (ca 0, 4, .inl (fun _ => 0))), (a11, .inl (ca 0, 16, .inl (fun _ => 0))), (a12, .inl (ca 0, 4, .inl (fun _ => -4))), (a13, .inl (ca 0, 4, .inl (fun _ => 0))), (a14, .inl (ca 0, 160, .inl (fun _ => 0))), (a15, .inl (ca 0, 20, .inl (fun _ => 0)))] 3 (a3, .inl (ca 0, 144, .inl (fun _ => 0)))) rfl ?_
  refine l_fd2 a0 a3 3 [.ref a1, .ref a2, .int 0, .int 0, .int 0, .int 0, .ref a3, .int 0, .int 0, .int 0, .int 0, .int 0, .ref a4, .int 0, .ref a5, .int 0, .int 0, .int 0, .int 0, .int 0, .int 0, .int 0, .ref a6, .ref a7, .ref a8, .int 0, .long 0, .ref a9, .int 0, .ref a10, .int 0, .ref a11, .ref a12, .ref a13, .ref a14, .int 0, .ref a15] (by decide) (Nat.le_of_ble_eq_true rfl) rfl rfl (fun g2 hg => ?_) 16 0 0 _ rfl (by decide) (by decide) (fun i _ => dr1_0 i)
  refine U_row (t := 0) (q0 := 3) (dr1 16) rfl hg ?_
  refine U_eq [(a0, .inr (11, [.ref a1, .ref a2, .int 0, .int 0, .int 0, .int 0, .ref a3, .int 0, .int 0, .int 0, .int 0, .int 0, .ref a4, .int 0, .ref a5, .int 0, .int 0, .int 0, .int 0, .int 0, .int 0, .int 0, .ref a6, .ref a7, .ref a8, .int 0, .long 0, .ref a9, .int 0, .ref a10, .int 0, .ref a11, .ref a12, .ref a13, .ref a14, .int 0, .ref a15])), (a1, .inl (ca 0, 432, .inl (fun _ => 0))), (a2, .inl (ca 2, 2, .inl (fun _ => 0))), (a3, .inl (ca 0, 144, .inl (dr1 16))), (a4, .inl (ca 0, 6, .inl (fun _ => 0))), (a5, .inl (ca 0, 160, .inl (fun _ => 0))), (a6, .inl (ca 0, 128, .inl (fun _ => 0))), (a7, .inl (ca 0, 4, .inl (fun _ => 0))), (a8, .inl (ca 0, 4, .inl (fun _ => 0))), (a9, .inl (ca 0, 48, .inl (fun _ => 0))), (a10, .inl (ca 0, 4, .inl (fun _ => 0))), (a11, .inl (ca 0, 16, .inl (fun _ => 0))), (a12, .inl (ca 0, 4, .inl (fun _ => -4))), (a13, .inl (ca 0, 4, .inl (fun _ => 0))), (a14, .inl (ca 0, 160, .inl (fun _ => 0))), (a15, .inl (ca 0, 20, .inl (fun _ => 0)))] rfl ?_
  refine U_aload_n 0 d_Mod_firstDraft_57 rfl rfl ?_
  refine U_get (.ref a3) 0 fa_Mod_17 rfl rfl d_Mod_firstDraft_58 ?_
  refine U_bipush 85 d_Mod_firstDraft_61 (by decide) ?_
  refine U_bipush 9 d_Mod_firstDraft_63 (by decide) ?_
  refine U_iast (q0 := 3) rfl (vp_in_iff.mpr (by decide)) d_Mod_firstDraft_65 ?_
  refine U_eq [(a0, .inr (11, [.ref a1, .ref a2, .int 0, .int 0, .int 0, .int 0, .ref a3, .int 0, .int 0, .int 0, .int 0, .int 0, .ref a4, .int 0, .ref a5, .int 0, .int 0, .int 0, .int 0, .int 0, .int 0, .int 0, .ref a6, .ref a7, .ref a8, .int 0, .long 0, .ref a9, .int 0, .ref a10, .int 0, .ref a11, .ref a12, .ref a13, .ref a14, .int 0, .ref a15])), (a1, .inl (ca 0, 432, .inl (fun _ => 0))), (a2, .inl (ca 2, 2, .inl (fun _ => 0))), (a3, .inl (ca 0, 144, .inl (upd (dr1 16) 85 9))), (a4, .inl (ca 0, 6, .inl (fun _ => 0))), (a5, .inl (ca 0, 160, .inl (fun _ => 0))), (a6, .inl (ca 0, 128, .inl (fun _ => 0))), (a7, .inl (ca 0, 4, .inl (fun _ => 0))), (a8, .inl (ca 0, 4, .inl (fun _ => 0))), (a9, .inl (ca 0, 48, .inl (fun _ => 0))), (a10, .inl (ca 0, 4, .inl (fun _ => 0))), (a11, .inl (ca 0, 16, .inl (fun _ => 0))), (a12, .inl (ca 0, 4, .inl (fun _ => -4))), (a13, .inl (ca 0, 4, .inl (fun _ => 0))), (a14, .inl (ca 0, 160, .inl (fun _ => 0))), (a15, .inl (ca 0, 20, .inl (fun _ => 0)))] rfl ?_
  refine U_row (t := 0) (q0 := 3) dr0 rfl (fun j _ => dr1_85 j) ?_
  refine U_eq [(a0, .inr (11, [.ref a1, .ref a2, .int 0, .int 0, .int 0, .int 0, .ref a3, .int 0, .int 0, .int 0, .int 0, .int 0, .ref a4, .int 0, .ref a5, .int 0, .int 0, .int 0, .int 0, .int 0, .int 0, .int 0, .ref a6, .ref a7, .ref a8, .int 0, .long 0, .ref a9, .int 0, .ref a10, .int 0, .ref a11, .ref a12, .ref a13, .ref a14, .int 0, .ref a15])), (a1, .inl (ca 0, 432, .inl (fun _ => 0))), (a2, .inl (ca 2, 2, .inl (fun _ => 0))), (a3, .inl (ca 0, 144, .inl dr0)), (a4, .inl (ca 0, 6, .inl (fun _ => 0))), (a5, .inl (ca 0, 160, .inl (fun _ => 0))), (a6, .inl (ca 0, 128, .inl (fun _ => 0))), (a7, .inl (ca 0, 4, .inl (fun _ => 0))), (a8, .inl (ca 0, 4, .inl (fun _ => 0))), (a9, .inl (ca 0, 48, .inl (fun _ => 0))), (a10, .inl (ca 0, 4, .inl (fun _ => 0))), (a11, .inl (ca 0, 16, .inl (fun _ => 0))), (a12, .inl (ca 0, 4, .inl (fun _ => -4))), (a13, .inl (ca 0, 4, .inl (fun _ => 0))), (a14, .inl (ca 0, 160, .inl (fun _ => 0))), (a15, .inl (ca 0, 20, .inl (fun _ => 0)))] rfl ?_
  refine U_aload_n 0 d_Mod_firstDraft_66 rfl rfl ?_
  refine U_iconst 3 d_Mod_firstDraft_67 (by decide) ?_
  refine U_putI t_Mod 0 rfl rfl i_Mod t_Mod_ok n_Mod (by decide) fl_Mod_62 rfl (t_Mod_ok 7 (by decide)) (Nat.le_of_ble_eq_true rfl) d_Mod_firstDraft_68 ?_
  refine U_eq [(a0, .inr (11, [.ref a1, .ref a2, .int 0, .int 0, .int 0, .int 0, .ref a3, .int 3, .int 0, .int 0, .int 0, .int 0, .ref a4, .int 0, .ref a5, .int 0, .int 0, .int 0, .int 0, .int 0, .int 0, .int 0, .ref a6, .ref a7, .ref a8, .int 0, .long 0, .ref a9, .int 0, .ref a10, .int 0, .ref a11, .ref a12, .ref a13, .ref a14, .int 0, .ref a15])), (a1, .inl (ca 0, 432, .inl (fun _ => 0))), (a2, .inl (ca 2, 2, .inl (fun _ => 0))), (a3, .inl (ca 0, 144, .inl dr0)), (a4, .inl (ca 0, 6, .inl (fun _ => 0))), (a5, .inl (ca 0, 160, .inl (fun _ => 0))), (a6, .inl (ca 0, 128, .inl (fun _ => 0))), (a7, .inl (ca 0, 4, .inl (fun _ => 0))), (a8, .inl (ca 0, 4, .inl (fun _ => 0))), (a9, .inl (ca 0, 48, .inl (fun _ => 0))), (a10, .inl (ca 0, 4, .inl (fun _ => 0))), (a11, .inl (ca 0, 16, .inl (fun _ => 0))), (a12, .inl (ca 0, 4, .inl (fun _ => -4))), (a13, .inl (ca 0, 4, .inl (fun _ => 0))), (a14, .inl (ca 0, 160, .inl (fun _ => 0))), (a15, .inl (ca 0, 20, .inl (fun _ => 0)))] rfl ?_
  refine U_aload_n 0 d_Mod_firstDraft_71 rfl rfl ?_
  refine U_iconst 3 d_Mod_firstDraft_72 (by decide) ?_
  refine U_putI t_Mod 0 rfl rfl i_Mod t_Mod_ok n_Mod (by decide) fl_Mod_66 rfl (t_Mod_ok 8 (by decide)) (Nat.le_of_ble_eq_true rfl) d_Mod_firstDraft_73 ?_
  refine U_eq [(a0, .inr (11, [.ref a1, .ref a2, .int 0, .int 0, .int 0, .int 0, .ref a3, .int 3, .int 3, .int 0, .int 0, .int 0, .ref a4, .int 0, .ref a5, .int 0, .int 0, .int 0, .int 0, .int 0, .int 0, .int 0, .ref a6, .ref a7, .ref a8, .int 0, .long 0, .ref a9, .int 0, .ref a10, .int 0, .ref a11, .ref a12, .ref a13, .ref a14, .int 0, .ref a15])), (a1, .inl (ca 0, 432, .inl (fun _ => 0))), (a2, .inl (ca 2, 2, .inl (fun _ => 0))), (a3, .inl (ca 0, 144, .inl dr0)), (a4, .inl (ca 0, 6, .inl (fun _ => 0))), (a5, .inl (ca 0, 160, .inl (fun _ => 0))), (a6, .inl (ca 0, 128, .inl (fun _ => 0))), (a7, .inl (ca 0, 4, .inl (fun _ => 0))), (a8, .inl (ca 0, 4, .inl (fun _ => 0))), (a9, .inl (ca 0, 48, .inl (fun _ => 0))), (a10, .inl (ca 0, 4, .inl (fun _ => 0))), (a11, .inl (ca 0, 16, .inl (fun _ => 0))), (a12, .inl (ca 0, 4, .inl (fun _ => -4))), (a13, .inl (ca 0, 4, .inl (fun _ => 0))), (a14, .inl (ca 0, 160, .inl (fun _ => 0))), (a15, .inl (ca 0, 20, .inl (fun _ => 0)))] rfl ?_
  refine U_aload_n 0 d_Mod_firstDraft_76 rfl rfl ?_
  refine U_iconst 1 d_Mod_firstDraft_77 (by decide) ?_
  refine U_putI t_Mod 0 rfl rfl i_Mod t_Mod_ok n_Mod (by decide) fl_Mod_69 rfl (t_Mod_ok 9 (by decide)) (Nat.le_of_ble_eq_true rfl) d_Mod_firstDraft_78 ?_
  refine U_eq [(a0, .inr (11, [.ref a1, .ref a2, .int 0, .int 0, .int 0, .int 0, .ref a3, .int 3, .int 3, .int 1, .int 0, .int 0, .ref a4, .int 0, .ref a5, .int 0, .int 0, .int 0, .int 0, .int 0, .int 0, .int 0, .ref a6, .ref a7, .ref a8, .int 0, .long 0, .ref a9, .int 0, .ref a10, .int 0, .ref a11, .ref a12, .ref a13, .ref a14, .int 0, .ref a15])), (a1, .inl (ca 0, 432, .inl (fun _ => 0))), (a2, .inl (ca 2, 2, .inl (fun _ => 0))), (a3, .inl (ca 0, 144, .inl dr0)), (a4, .inl (ca 0, 6, .inl (fun _ => 0))), (a5, .inl (ca 0, 160, .inl (fun _ => 0))), (a6, .inl (ca 0, 128, .inl (fun _ => 0))), (a7, .inl (ca 0, 4, .inl (fun _ => 0))), (a8, .inl (ca 0, 4, .inl (fun _ => 0))), (a9, .inl (ca 0, 48, .inl (fun _ => 0))), (a10, .inl (ca 0, 4, .inl (fun _ => 0))), (a11, .inl (ca 0, 16, .inl (fun _ => 0))), (a12, .inl (ca 0, 4, .inl (fun _ => -4))), (a13, .inl (ca 0, 4, .inl (fun _ => 0))), (a14, .inl (ca 0, 160, .inl (fun _ => 0))), (a15, .inl (ca 0, 20, .inl (fun _ => 0)))] rfl ?_
  refine U_aload_n 0 d_Mod_firstDraft_81 rfl rfl ?_
  refine U_bipush 10 d_Mod_firstDraft_82 (by decide) ?_
  refine U_putI t_Mod 0 rfl rfl i_Mod t_Mod_ok n_Mod (by decide) fl_Mod_72 rfl (t_Mod_ok 10 (by decide)) (Nat.le_of_ble_eq_true rfl) d_Mod_firstDraft_84 ?_
  refine U_eq [(a0, .inr (11, [.ref a1, .ref a2, .int 0, .int 0, .int 0, .int 0, .ref a3, .int 3, .int 3, .int 1, .int 10, .int 0, .ref a4, .int 0, .ref a5, .int 0, .int 0, .int 0, .int 0, .int 0, .int 0, .int 0, .ref a6, .ref a7, .ref a8, .int 0, .long 0, .ref a9, .int 0, .ref a10, .int 0, .ref a11, .ref a12, .ref a13, .ref a14, .int 0, .ref a15])), (a1, .inl (ca 0, 432, .inl (fun _ => 0))), (a2, .inl (ca 2, 2, .inl (fun _ => 0))), (a3, .inl (ca 0, 144, .inl dr0)), (a4, .inl (ca 0, 6, .inl (fun _ => 0))), (a5, .inl (ca 0, 160, .inl (fun _ => 0))), (a6, .inl (ca 0, 128, .inl (fun _ => 0))), (a7, .inl (ca 0, 4, .inl (fun _ => 0))), (a8, .inl (ca 0, 4, .inl (fun _ => 0))), (a9, .inl (ca 0, 48, .inl (fun _ => 0))), (a10, .inl (ca 0, 4, .inl (fun _ => 0))), (a11, .inl (ca 0, 16, .inl (fun _ => 0))), (a12, .inl (ca 0, 4, .inl (fun _ => -4))), (a13, .inl (ca 0, 4, .inl (fun _ => 0))), (a14, .inl (ca 0, 160, .inl (fun _ => 0))), (a15, .inl (ca 0, 20, .inl (fun _ => 0)))] rfl ?_
  refine U_aload_n 0 d_Mod_firstDraft_87 rfl rfl ?_
  refine U_iconst 0 d_Mod_firstDraft_88 (by decide) ?_
  refine U_putI t_Mod 0 rfl rfl i_Mod t_Mod_ok n_Mod (by decide) fl_Mod_75 rfl (t_Mod_ok 11 (by decide)) (Nat.le_of_ble_eq_true rfl) d_Mod_firstDraft_89 ?_
  refine U_eq [(a0, .inr (11, [.ref a1, .ref a2, .int 0, .int 0, .int 0, .int 0, .ref a3, .int 3, .int 3, .int 1, .int 10, .int 0, .ref a4, .int 0, .ref a5, .int 0, .int 0, .int 0, .int 0, .int 0, .int 0, .int 0, .ref a6, .ref a7, .ref a8, .int 0, .long 0, .ref a9, .int 0, .ref a10, .int 0, .ref a11, .ref a12, .ref a13, .ref a14, .int 0, .ref a15])), (a1, .inl (ca 0, 432, .inl (fun _ => 0))), (a2, .inl (ca 2, 2, .inl (fun _ => 0))), (a3, .inl (ca 0, 144, .inl dr0)), (a4, .inl (ca 0, 6, .inl (fun _ => 0))), (a5, .inl (ca 0, 160, .inl (fun _ => 0))), (a6, .inl (ca 0, 128, .inl (fun _ => 0))), (a7, .inl (ca 0, 4, .inl (fun _ => 0))), (a8, .inl (ca 0, 4, .inl (fun _ => 0))), (a9, .inl (ca 0, 48, .inl (fun _ => 0))), (a10, .inl (ca 0, 4, .inl (fun _ => 0))), (a11, .inl (ca 0, 16, .inl (fun _ => 0))), (a12, .inl (ca 0, 4, .inl (fun _ => -4))), (a13, .inl (ca 0, 4, .inl (fun _ => 0))), (a14, .inl (ca 0, 160, .inl (fun _ => 0))), (a15, .inl (ca 0, 20, .inl (fun _ => 0)))] rfl ?_
  refine U_iconst 0 d_Mod_firstDraft_92 (by decide) ?_
  refine U_istore_n 1 [some (.ref a0), some (.int 0)] d_Mod_firstDraft_93 rfl (by decide) rfl rfl ?_
  refine U_iload_n 1 d_Mod_firstDraft_94 rfl rfl ?_
  refine U_bipush 6 d_Mod_firstDraft_95 (by decide) ?_
  refine U_icmp_ge 113 d_Mod_firstDraft_97 (by decide) (fun c => absurd c (by decide)) (fun _ => ?_)
  refine U_aload_n 0 d_Mod_firstDraft_100 rfl rfl ?_
  refine U_get (.ref a4) 0 fa_Mod_20 rfl rfl d_Mod_firstDraft_101 ?_
  refine U_iload_n 1 d_Mod_firstDraft_104 rfl rfl ?_
  refine U_iconst 0 d_Mod_firstDraft_105 (by decide) ?_
  refine U_iast (q0 := 4) rfl (vp_in_iff.mpr (by decide)) d_Mod_firstDraft_106 ?_
  refine U_eq [(a0, .inr (11, [.ref a1, .ref a2, .int 0, .int 0, .int 0, .int 0, .ref a3, .int 3, .int 3, .int 1, .int 10, .int 0, .ref a4, .int 0, .ref a5, .int 0, .int 0, .int 0, .int 0, .int 0, .int 0, .int 0, .ref a6, .ref a7, .ref a8, .int 0, .long 0, .ref a9, .int 0, .ref a10, .int 0, .ref a11, .ref a12, .ref a13, .ref a14, .int 0, .ref a15])), (a1, .inl (ca 0, 432, .inl (fun _ => 0))), (a2, .inl (ca 2, 2, .inl (fun _ => 0))), (a3, .inl (ca 0, 144, .inl dr0)), (a4, .inl (ca 0, 6, .inl (upd (fun _ => 0) 0 0))), (a5, .inl (ca 0, 160, .inl (fun _ => 0))), (a6, .inl (ca 0, 128, .inl (fun _ => 0))), (a7, .inl (ca 0, 4, .inl (fun _ => 0))), (a8, .inl (ca 0, 4, .inl (fun _ => 0))), (a9, .inl (ca 0, 48, .inl (fun _ => 0))), (a10, .inl (ca 0, 4, .inl (fun _ => 0))), (a11, .inl (ca 0, 16, .inl (fun _ => 0))), (a12, .inl (ca 0, 4, .inl (fun _ => -4))), (a13, .inl (ca 0, 4, .inl (fun _ => 0))), (a14, .inl (ca 0, 160, .inl (fun _ => 0))), (a15, .inl (ca 0, 20, .inl (fun _ => 0)))] rfl ?_
  refine U_iinc (v := 1) 1 [some (.ref a0), some (.int 1)] d_Mod_firstDraft_107 rfl (by decide) (by decide) rfl rfl ?_
  refine U_goto 94 d_Mod_firstDraft_110 (by decide) ?_
  refine U_iload_n 1 d_Mod_firstDraft_94 rfl rfl ?_
  refine U_bipush 6 d_Mod_firstDraft_95 (by decide) ?_
  refine U_icmp_ge 113 d_Mod_firstDraft_97 (by decide) (fun c => absurd c (by decide)) (fun _ => ?_)
  refine U_aload_n 0 d_Mod_firstDraft_100 rfl rfl ?_
  refine U_get (.ref a4) 0 fa_Mod_20 rfl rfl d_Mod_firstDraft_101 ?_
  refine U_iload_n 1 d_Mod_firstDraft_104 rfl rfl ?_
  refine U_iconst 0 d_Mod_firstDraft_105 (by decide) ?_
  refine U_iast (q0 := 4) rfl (vp_in_iff.mpr (by decide)) d_Mod_firstDraft_106 ?_
  refine U_eq [(a0, .inr (11, [.ref a1, .ref a2, .int 0, .int 0, .int 0, .int 0, .ref a3, .int 3, .int 3, .int 1, .int 10, .int 0, .ref a4, .int 0, .ref a5, .int 0, .int 0, .int 0, .int 0, .int 0, .int 0, .int 0, .ref a6, .ref a7, .ref a8, .int 0, .long 0, .ref a9, .int 0, .ref a10, .int 0, .ref a11, .ref a12, .ref a13, .ref a14, .int 0, .ref a15])), (a1, .inl (ca 0, 432, .inl (fun _ => 0))), (a2, .inl (ca 2, 2, .inl (fun _ => 0))), (a3, .inl (ca 0, 144, .inl dr0)), (a4, .inl (ca 0, 6, .inl (upd (upd (fun _ => 0) 0 0) 1 0))), (a5, .inl (ca 0, 160, .inl (fun _ => 0))), (a6, .inl (ca 0, 128, .inl (fun _ => 0))), (a7, .inl (ca 0, 4, .inl (fun _ => 0))), (a8, .inl (ca 0, 4, .inl (fun _ => 0))), (a9, .inl (ca 0, 48, .inl (fun _ => 0))), (a10, .inl (ca 0, 4, .inl (fun _ => 0))), (a11, .inl (ca 0, 16, .inl (fun _ => 0))), (a12, .inl (ca 0, 4, .inl (fun _ => -4))), (a13, .inl (ca 0, 4, .inl (fun _ => 0))), (a14, .inl (ca 0, 160, .inl (fun _ => 0))), (a15, .inl (ca 0, 20, .inl (fun _ => 0)))] rfl ?_
  refine U_iinc (v := 2) 1 [some (.ref a0), some (.int 2)] d_Mod_firstDraft_107 rfl (by decide) (by decide) rfl rfl ?_
  refine U_goto 94 d_Mod_firstDraft_110 (by decide) ?_
  refine U_iload_n 1 d_Mod_firstDraft_94 rfl rfl ?_
  refine U_bipush 6 d_Mod_firstDraft_95 (by decide) ?_
  refine U_icmp_ge 113 d_Mod_firstDraft_97 (by decide) (fun c => absurd c (by decide)) (fun _ => ?_)
  refine U_aload_n 0 d_Mod_firstDraft_100 rfl rfl ?_
  refine U_get (.ref a4) 0 fa_Mod_20 rfl rfl d_Mod_firstDraft_101 ?_
  refine U_iload_n 1 d_Mod_firstDraft_104 rfl rfl ?_
  refine U_iconst 0 d_Mod_firstDraft_105 (by decide) ?_
  refine U_iast (q0 := 4) rfl (vp_in_iff.mpr (by decide)) d_Mod_firstDraft_106 ?_
  refine U_eq [(a0, .inr (11, [.ref a1, .ref a2, .int 0, .int 0, .int 0, .int 0, .ref a3, .int 3, .int 3, .int 1, .int 10, .int 0, .ref a4, .int 0, .ref a5, .int 0, .int 0, .int 0, .int 0, .int 0, .int 0, .int 0, .ref a6, .ref a7, .ref a8, .int 0, .long 0, .ref a9, .int 0, .ref a10, .int 0, .ref a11, .ref a12, .ref a13, .ref a14, .int 0, .ref a15])), (a1, .inl (ca 0, 432, .inl (fun _ => 0))), (a2, .inl (ca 2, 2, .inl (fun _ => 0))), (a3, .inl (ca 0, 144, .inl dr0)), (a4, .inl (ca 0, 6, .inl (upd (upd (upd (fun _ => 0) 0 0) 1 0) 2 0))), (a5, .inl (ca 0, 160, .inl (fun _ => 0))), (a6, .inl (ca 0, 128, .inl (fun _ => 0))), (a7, .inl (ca 0, 4, .inl (fun _ => 0))), (a8, .inl (ca 0, 4, .inl (fun _ => 0))), (a9, .inl (ca 0, 48, .inl (fun _ => 0))), (a10, .inl (ca 0, 4, .inl (fun _ => 0))), (a11, .inl (ca 0, 16, .inl (fun _ => 0))), (a12, .inl (ca 0, 4, .inl (fun _ => -4))), (a13, .inl (ca 0, 4, .inl (fun _ => 0))), (a14, .inl (ca 0, 160, .inl (fun _ => 0))), (a15, .inl (ca 0, 20, .inl (fun _ => 0)))] rfl ?_
  refine U_iinc (v := 3) 1 [some (.ref a0), some (.int 3)] d_Mod_firstDraft_107 rfl (by decide) (by decide) rfl rfl ?_
  refine U_goto 94 d_Mod_firstDraft_110 (by decide) ?_
  refine U_iload_n 1 d_Mod_firstDraft_94 rfl rfl ?_
  refine U_bipush 6 d_Mod_firstDraft_95 (by decide) ?_
  refine U_icmp_ge 113 d_Mod_firstDraft_97 (by decide) (fun c => absurd c (by decide)) (fun _ => ?_)
  refine U_aload_n 0 d_Mod_firstDraft_100 rfl rfl ?_
  refine U_get (.ref a4) 0 fa_Mod_20 rfl rfl d_Mod_firstDraft_101 ?_
  refine U_iload_n 1 d_Mod_firstDraft_104 rfl rfl ?_
  refine U_iconst 0 d_Mod_firstDraft_105 (by decide) ?_
  refine U_iast (q0 := 4) rfl (vp_in_iff.mpr (by decide)) d_Mod_firstDraft_106 ?_
  refine U_eq [(a0, .inr (11, [.ref a1, .ref a2, .int 0, .int 0, .int 0, .int 0, .ref a3, .int 3, .int 3, .int 1, .int 10, .int 0, .ref a4, .int 0, .ref a5, .int 0, .int 0, .int 0, .int 0, .int 0, .int 0, .int 0, .ref a6, .ref a7, .ref a8, .int 0, .long 0, .ref a9, .int 0, .ref a10, .int 0, .ref a11, .ref a12, .ref a13, .ref a14, .int 0, .ref a15])), (a1, .inl (ca 0, 432, .inl (fun _ => 0))), (a2, .inl (ca 2, 2, .inl (fun _ => 0))), (a3, .inl (ca 0, 144, .inl dr0)), (a4, .inl (ca 0, 6, .inl (upd (upd (upd (upd (fun _ => 0) 0 0) 1 0) 2 0) 3 0))), (a5, .inl (ca 0, 160, .inl (fun _ => 0))), (a6, .inl (ca 0, 128, .inl (fun _ => 0))), (a7, .inl (ca 0, 4, .inl (fun _ => 0))), (a8, .inl (ca 0, 4, .inl (fun _ => 0))), (a9, .inl (ca 0, 48, .inl (fun _ => 0))), (a10, .inl (ca 0, 4, .inl (fun _ => 0))), (a11, .inl (ca 0, 16, .inl (fun _ => 0))), (a12, .inl (ca 0, 4, .inl (fun _ => -4))), (a13, .inl (ca 0, 4, .inl (fun _ => 0))), (a14, .inl (ca 0, 160, .inl (fun _ => 0))), (a15, .inl (ca 0, 20, .inl (fun _ => 0)))] rfl ?_
  refine U_iinc (v := 4) 1 [some (.ref a0), some (.int 4)] d_Mod_firstDraft_107 rfl (by decide) (by decide) rfl rfl ?_
  refine U_goto 94 d_Mod_firstDraft_110 (by decide) ?_
  refine U_iload_n 1 d_Mod_firstDraft_94 rfl rfl ?_
  refine U_bipush 6 d_Mod_firstDraft_95 (by decide) ?_
  refine U_icmp_ge 113 d_Mod_firstDraft_97 (by decide) (fun c => absurd c (by decide)) (fun _ => ?_)
  refine U_aload_n 0 d_Mod_firstDraft_100 rfl rfl ?_
  refine U_get (.ref a4) 0 fa_Mod_20 rfl rfl d_Mod_firstDraft_101 ?_
  refine U_iload_n 1 d_Mod_firstDraft_104 rfl rfl ?_
  refine U_iconst 0 d_Mod_firstDraft_105 (by decide) ?_
  refine U_iast (q0 := 4) rfl (vp_in_iff.mpr (by decide)) d_Mod_firstDraft_106 ?_
  refine U_eq [(a0, .inr (11, [.ref a1, .ref a2, .int 0, .int 0, .int 0, .int 0, .ref a3, .int 3, .int 3, .int 1, .int 10, .int 0, .ref a4, .int 0, .ref a5, .int 0, .int 0, .int 0, .int 0, .int 0, .int 0, .int 0, .ref a6, .ref a7, .ref a8, .int 0, .long 0, .ref a9, .int 0, .ref a10, .int 0, .ref a11, .ref a12, .ref a13, .ref a14, .int 0, .ref a15])), (a1, .inl (ca 0, 432, .inl (fun _ => 0))), (a2, .inl (ca 2, 2, .inl (fun _ => 0))), (a3, .inl (ca 0, 144, .inl dr0)), (a4, .inl (ca 0, 6, .inl (upd (upd (upd (upd (upd (fun _ => 0) 0 0) 1 0) 2 0) 3 0) 4 0))), (a5, .inl (ca 0, 160, .inl (fun _ => 0))), (a6, .inl (ca 0, 128, .inl (fun _ => 0))), (a7, .inl (ca 0, 4, .inl (fun _ => 0))), (a8, .inl (ca 0, 4, .inl (fun _ => 0))), (a9, .inl (ca 0, 48, .inl (fun _ => 0))), (a10, .inl (ca 0, 4, .inl (fun _ => 0))), (a11, .inl (ca 0, 16, .inl (fun _ => 0))), (a12, .inl (ca 0, 4, .inl (fun _ => -4))), (a13, .inl (ca 0, 4, .inl (fun _ => 0))), (a14, .inl (ca 0, 160, .inl (fun _ => 0))), (a15, .inl (ca 0, 20, .inl (fun _ => 0)))] rfl ?_
  refine U_iinc (v := 5) 1 [some (.ref a0), some (.int 5)] d_Mod_firstDraft_107 rfl (by decide) (by decide) rfl rfl ?_
  refine U_goto 94 d_Mod_firstDraft_110 (by decide) ?_
  refine U_iload_n 1 d_Mod_firstDraft_94 rfl rfl ?_
  refine U_bipush 6 d_Mod_firstDraft_95 (by decide) ?_
  refine U_icmp_ge 113 d_Mod_firstDraft_97 (by decide) (fun c => absurd c (by decide)) (fun _ => ?_)
  refine U_aload_n 0 d_Mod_firstDraft_100 rfl rfl ?_
  refine U_get (.ref a4) 0 fa_Mod_20 rfl rfl d_Mod_firstDraft_101 ?_
  refine U_iload_n 1 d_Mod_firstDraft_104 rfl rfl ?_
  refine U_iconst 0 d_Mod_firstDraft_105 (by decide) ?_
  refine U_iast (q0 := 4) rfl (vp_in_iff.mpr (by decide)) d_Mod_firstDraft_106 ?_
  refine U_eq [(a0, .inr (11, [.ref a1, .ref a2, .int 0, .int 0, .int 0, .int 0, .ref a3, .int 3, .int 3, .int 1, .int 10, .int 0, .ref a4, .int 0, .ref a5, .int 0, .int 0, .int 0, .int 0, .int 0, .int 0, .int 0, .ref a6, .ref a7, .ref a8, .int 0, .long 0, .ref a9, .int 0, .ref a10, .int 0, .ref a11, .ref a12, .ref a13, .ref a14, .int 0, .ref a15])), (a1, .inl (ca 0, 432, .inl (fun _ => 0))), (a2, .inl (ca 2, 2, .inl (fun _ => 0))), (a3, .inl (ca 0, 144, .inl dr0)), (a4, .inl (ca 0, 6, .inl (upd (upd (upd (upd (upd (upd (fun _ => 0) 0 0) 1 0) 2 0) 3 0) 4 0) 5 0))), (a5, .inl (ca 0, 160, .inl (fun _ => 0))), (a6, .inl (ca 0, 128, .inl (fun _ => 0))), (a7, .inl (ca 0, 4, .inl (fun _ => 0))), (a8, .inl (ca 0, 4, .inl (fun _ => 0))), (a9, .inl (ca 0, 48, .inl (fun _ => 0))), (a10, .inl (ca 0, 4, .inl (fun _ => 0))), (a11, .inl (ca 0, 16, .inl (fun _ => 0))), (a12, .inl (ca 0, 4, .inl (fun _ => -4))), (a13, .inl (ca 0, 4, .inl (fun _ => 0))), (a14, .inl (ca 0, 160, .inl (fun _ => 0))), (a15, .inl (ca 0, 20, .inl (fun _ => 0)))] rfl ?_
  refine U_iinc (v := 6) 1 [some (.ref a0), some (.int 6)] d_Mod_firstDraft_107 rfl (by decide) (by decide) rfl rfl ?_
  refine U_goto 94 d_Mod_firstDraft_110 (by decide) ?_
  refine U_iload_n 1 d_Mod_firstDraft_94 rfl rfl ?_
  refine U_bipush 6 d_Mod_firstDraft_95 (by decide) ?_
  refine U_icmp_ge 113 d_Mod_firstDraft_97 (by decide) (fun _ => ?_) (fun c => absurd (by decide) c)
  refine U_row (t := 0) (q0 := 4) (fun _ => 0) rfl (by decide) ?_
  refine U_eq [(a0, .inr (11, [.ref a1, .ref a2, .int 0, .int 0, .int 0, .int 0, .ref a3, .int 3, .int 3, .int 1, .int 10, .int 0, .ref a4, .int 0, .ref a5, .int 0, .int 0, .int 0, .int 0, .int 0, .int 0, .int 0, .ref a6, .ref a7, .ref a8, .int 0, .long 0, .ref a9, .int 0, .ref a10, .int 0, .ref a11, .ref a12, .ref a13, .ref a14, .int 0, .ref a15])), (a1, .inl (ca 0, 432, .inl (fun _ => 0))), (a2, .inl (ca 2, 2, .inl (fun _ => 0))), (a3, .inl (ca 0, 144, .inl dr0)), (a4, .inl (ca 0, 6, .inl (fun _ => 0))), (a5, .inl (ca 0, 160, .inl (fun _ => 0))), (a6, .inl (ca 0, 128, .inl (fun _ => 0))), (a7, .inl (ca 0, 4, .inl (fun _ => 0))), (a8, .inl (ca 0, 4, .inl (fun _ => 0))), (a9, .inl (ca 0, 48, .inl (fun _ => 0))), (a10, .inl (ca 0, 4, .inl (fun _ => 0))), (a11, .inl (ca 0, 16, .inl (fun _ => 0))), (a12, .inl (ca 0, 4, .inl (fun _ => -4))), (a13, .inl (ca 0, 4, .inl (fun _ => 0))), (a14, .inl (ca 0, 160, .inl (fun _ => 0))), (a15, .inl (ca 0, 20, .inl (fun _ => 0)))] rfl ?_
  refine U_aload_n 0 d_Mod_firstDraft_113 rfl rfl ?_
  refine U_bipush (-4) d_Mod_firstDraft_114 (by decide) ?_
  refine U_putI t_Mod 0 rfl rfl i_Mod t_Mod_ok n_Mod (by decide) fl_Mod_78 rfl (t_Mod_ok 13 (by decide)) (Nat.le_of_ble_eq_true rfl) d_Mod_firstDraft_116 ?_
  refine U_eq [(a0, .inr (11, [.ref a1, .ref a2, .int 0, .int 0, .int 0, .int 0, .ref a3, .int 3, .int 3, .int 1, .int 10, .int 0, .ref a4, .int (-4), .ref a5, .int 0, .int 0, .int 0, .int 0, .int 0, .int 0, .int 0, .ref a6, .ref a7, .ref a8, .int 0, .long 0, .ref a9, .int 0, .ref a10, .int 0, .ref a11, .ref a12, .ref a13, .ref a14, .int 0, .ref a15])), (a1, .inl (ca 0, 432, .inl (fun _ => 0))), (a2, .inl (ca 2, 2, .inl (fun _ => 0))), (a3, .inl (ca 0, 144, .inl dr0)), (a4, .inl (ca 0, 6, .inl (fun _ => 0))), (a5, .inl (ca 0, 160, .inl (fun _ => 0))), (a6, .inl (ca 0, 128, .inl (fun _ => 0))), (a7, .inl (ca 0, 4, .inl (fun _ => 0))), (a8, .inl (ca 0, 4, .inl (fun _ => 0))), (a9, .inl (ca 0, 48, .inl (fun _ => 0))), (a10, .inl (ca 0, 4, .inl (fun _ => 0))), (a11, .inl (ca 0, 16, .inl (fun _ => 0))), (a12, .inl (ca 0, 4, .inl (fun _ => -4))), (a13, .inl (ca 0, 4, .inl (fun _ => 0))), (a14, .inl (ca 0, 160, .inl (fun _ => 0))), (a15, .inl (ca 0, 20, .inl (fun _ => 0)))] rfl ?_
  exact U_vret d_Mod_firstDraft_119 rfl rfl rfl
set_option maxRecDepth 100000 in
theorem k_Mod_keepDraft (D : va_G) (ca : Nat → ClassId) (a0 : Nat) (a1 : Nat) (a2 : Nat) (a3 : Nat) (a4 : Nat) (a5 : Nat) (a6 : Nat) (a7 : Nat) (a8 : Nat) (a9 : Nat) (a10 : Nat) (a11 : Nat) (a12 : Nat) (a13 : Nat) (a14 : Nat) (a15 : Nat) : Cu y_Mod_keepDraft b_Mod_keepDraft 2 0 0 0 0 D ca [.ref a0] [(a0, .inr (11, [.ref a1, .ref a2, .int 0, .int 0, .int 0, .int 0, .ref a3, .int 3, .int 3, .int 1, .int 10, .int 0, .ref a4, .int (-4), .ref a5, .int 0, .int 0, .int 0, .int 0, .int 0, .int 0, .int 0, .ref a6, .ref a7, .ref a8, .int 0, .long 0, .ref a9, .int 0, .ref a10, .int 0, .ref a11, .ref a12, .ref a13, .ref a14, .int 0, .ref a15])), (a1, .inl (ca 0, 432, .inl (fun _ => 0))), (a2, .inl (ca 2, 2, .inl (fun _ => 0))), (a3, .inl (ca 0, 144, .inl dr0)), (a4, .inl (ca 0, 6, .inl (fun _ => 0))), (a5, .inl (ca 0, 160, .inl (fun _ => 0))), (a6, .inl (ca 0, 128, .inl (fun _ => 0))), (a7, .inl (ca 0, 4, .inl (fun _ => 0))), (a8, .inl (ca 0, 4, .inl (fun _ => 0))), (a9, .inl (ca 0, 48, .inl (fun _ => 0))), (a10, .inl (ca 0, 4, .inl (fun _ => 0))), (a11, .inl (ca 0, 16, .inl (fun _ => 0))), (a12, .inl (ca 0, 4, .inl (fun _ => -4))), (a13, .inl (ca 0, 4, .inl (fun _ => 0))), (a14, .inl (ca 0, 160, .inl (fun _ => 0))), (a15, .inl (ca 0, 20, .inl (fun _ => 0)))] (fun w => w = [(a0, .inr (11, [.ref a1, .ref a2, .int 3, .int 3, .int 1, .int 10, .ref a3, .int 3, .int 3, .int 1, .int 10, .int 0, .ref a4, .int (-4), .ref a5, .int 0, .int 0, .int 0, .int 0, .int 0, .int 0, .int 0, .ref a6, .ref a7, .ref a8, .int 0, .long 0, .ref a9, .int 0, .ref a10, .int 0, .ref a11, .ref a12, .ref a13, .ref a14, .int 0, .ref a15])), (a1, .inl (ca 0, 432, .inl (fun i => if i < 144 then dr0 i else 0))), (a2, .inl (ca 2, 2, .inl (fun _ => 0))), (a3, .inl (ca 0, 144, .inl dr0)), (a4, .inl (ca 0, 6, .inl (fun _ => 0))), (a5, .inl (ca 0, 160, .inl (fun _ => 0))), (a6, .inl (ca 0, 128, .inl (fun _ => 0))), (a7, .inl (ca 0, 4, .inl (fun _ => 0))), (a8, .inl (ca 0, 4, .inl (fun _ => 0))), (a9, .inl (ca 0, 48, .inl (fun _ => 0))), (a10, .inl (ca 0, 4, .inl (fun _ => 0))), (a11, .inl (ca 0, 16, .inl (fun _ => 0))), (a12, .inl (ca 0, 4, .inl (fun _ => -4))), (a13, .inl (ca 0, 4, .inl (fun _ => 0))), (a14, .inl (ca 0, 160, .inl (fun _ => 0))), (a15, .inl (ca 0, 20, .inl (fun _ => 0)))]) := by
  refine cu_of R_Mod false [some (.ref a0), none] rfl (fun q => by cases q) (by decide) rfl (Nat.le_of_ble_eq_true rfl) ?_
  refine U_iconst 0 d_Mod_keepDraft_0 (by decide) ?_
  refine U_istore_n 1 [some (.ref a0), some (.int 0)] d_Mod_keepDraft_1 rfl (by decide) rfl rfl ?_
  refine U_eq (List.set [(a0, .inr (11, [.ref a1, .ref a2, .int 0, .int 0, .int 0, .int 0, .ref a3, .int 3, .int 3, .int 1, .int 10, .int 0, .ref a4, .int (-4), .ref a5, .int 0, .int 0, .int 0, .int 0, .int 0, .int 0, .int 0, .ref a6, .ref a7, .ref a8, .int 0, .long 0, .ref a9, .int 0, .ref a10, .int 0, .ref a11, .ref a12, .ref a13, .ref a14, .int 0, .ref a15])), (a1, .inl (ca 0, 432, .inl (fun _ => 0))), (a2, .inl (ca 2, 2, .inl (fun _ => 0))), (a3, .inl (ca 0, 144, .inl dr0)), (a4, .inl (ca 0, 6, .inl (fun _ => 0))), (a5, .inl (ca 0, 160, .inl (fun _ => 0))), (a6, .inl (ca 0, 128, .inl (fun _ => 0))), (a7, .inl (ca 0, 4, .inl (fun _ => 0))), (a8, .inl (ca 0, 4, .inl (fun _ => 0))), (a9, .inl (ca 0, 48, .inl (fun _ => 0))), (a10, .inl (ca 0, 4, .inl (fun _ => 0))), (a11, .inl (ca 0, 16, .inl (fun _ => 0))), (a12, .inl (ca 0, 4, .inl (fun _ => -4))), (a13, .inl (ca 0, 4, .inl (fun _ => 0))), (a14, .inl (ca 0, 160, .inl (fun _ => 0))), (a15, .inl (ca 0, 20, .inl (fun _ => 0)))] 1 (a1, .inl (ca 0, 432, .inl (fun _ => 0)))) rfl ?_
  refine l_kd a0 a1 a3 1 3 [.ref a1, .ref a2, .int 0, .int 0, .int 0, .int 0, .ref a3, .int 3, .int 3, .int 1, .int 10, .int 0, .ref a4, .int (-4), .ref a5, .int 0, .int 0, .int 0, .int 0, .int 0, .int 0, .int 0, .ref a6, .ref a7, .ref a8, .int 0, .long 0, .ref a9, .int 0, .ref a10, .int 0, .ref a11, .ref a12, .ref a13, .ref a14, .int 0, .ref a15] (by decide) (by decide) (Nat.le_of_ble_eq_true rfl) rfl rfl rfl rfl (fun g1 hg => ?_) 144 0 0 _ rfl (by decide) (by decide) (fun i _ => (if_neg (Nat.not_lt_zero i)).symm)
  refine U_row (t := 0) (q0 := 1) (fun i => if i < 144 then dr0 i else 0) rfl hg ?_
  refine U_eq [(a0, .inr (11, [.ref a1, .ref a2, .int 0, .int 0, .int 0, .int 0, .ref a3, .int 3, .int 3, .int 1, .int 10, .int 0, .ref a4, .int (-4), .ref a5, .int 0, .int 0, .int 0, .int 0, .int 0, .int 0, .int 0, .ref a6, .ref a7, .ref a8, .int 0, .long 0, .ref a9, .int 0, .ref a10, .int 0, .ref a11, .ref a12, .ref a13, .ref a14, .int 0, .ref a15])), (a1, .inl (ca 0, 432, .inl (fun i => if i < 144 then dr0 i else 0))), (a2, .inl (ca 2, 2, .inl (fun _ => 0))), (a3, .inl (ca 0, 144, .inl dr0)), (a4, .inl (ca 0, 6, .inl (fun _ => 0))), (a5, .inl (ca 0, 160, .inl (fun _ => 0))), (a6, .inl (ca 0, 128, .inl (fun _ => 0))), (a7, .inl (ca 0, 4, .inl (fun _ => 0))), (a8, .inl (ca 0, 4, .inl (fun _ => 0))), (a9, .inl (ca 0, 48, .inl (fun _ => 0))), (a10, .inl (ca 0, 4, .inl (fun _ => 0))), (a11, .inl (ca 0, 16, .inl (fun _ => 0))), (a12, .inl (ca 0, 4, .inl (fun _ => -4))), (a13, .inl (ca 0, 4, .inl (fun _ => 0))), (a14, .inl (ca 0, 160, .inl (fun _ => 0))), (a15, .inl (ca 0, 20, .inl (fun _ => 0)))] rfl ?_
  refine U_aload_n 0 d_Mod_keepDraft_27 rfl rfl ?_
  refine U_aload_n 0 d_Mod_keepDraft_28 rfl rfl ?_
  refine U_get (.int 3) 0 fa_Mod_62 rfl rfl d_Mod_keepDraft_29 ?_
  refine U_putI t_Mod 0 rfl rfl i_Mod t_Mod_ok n_Mod (by decide) fl_Mod_81 rfl (t_Mod_ok 2 (by decide)) (Nat.le_of_ble_eq_true rfl) d_Mod_keepDraft_32 ?_
  refine U_eq [(a0, .inr (11, [.ref a1, .ref a2, .int 3, .int 0, .int 0, .int 0, .ref a3, .int 3, .int 3, .int 1, .int 10, .int 0, .ref a4, .int (-4), .ref a5, .int 0, .int 0, .int 0, .int 0, .int 0, .int 0, .int 0, .ref a6, .ref a7, .ref a8, .int 0, .long 0, .ref a9, .int 0, .ref a10, .int 0, .ref a11, .ref a12, .ref a13, .ref a14, .int 0, .ref a15])), (a1, .inl (ca 0, 432, .inl (fun i => if i < 144 then dr0 i else 0))), (a2, .inl (ca 2, 2, .inl (fun _ => 0))), (a3, .inl (ca 0, 144, .inl dr0)), (a4, .inl (ca 0, 6, .inl (fun _ => 0))), (a5, .inl (ca 0, 160, .inl (fun _ => 0))), (a6, .inl (ca 0, 128, .inl (fun _ => 0))), (a7, .inl (ca 0, 4, .inl (fun _ => 0))), (a8, .inl (ca 0, 4, .inl (fun _ => 0))), (a9, .inl (ca 0, 48, .inl (fun _ => 0))), (a10, .inl (ca 0, 4, .inl (fun _ => 0))), (a11, .inl (ca 0, 16, .inl (fun _ => 0))), (a12, .inl (ca 0, 4, .inl (fun _ => -4))), (a13, .inl (ca 0, 4, .inl (fun _ => 0))), (a14, .inl (ca 0, 160, .inl (fun _ => 0))), (a15, .inl (ca 0, 20, .inl (fun _ => 0)))] rfl ?_
  refine U_aload_n 0 d_Mod_keepDraft_35 rfl rfl ?_
  refine U_aload_n 0 d_Mod_keepDraft_36 rfl rfl ?_
  refine U_get (.int 3) 0 fa_Mod_66 rfl rfl d_Mod_keepDraft_37 ?_
  refine U_putI t_Mod 0 rfl rfl i_Mod t_Mod_ok n_Mod (by decide) fl_Mod_84 rfl (t_Mod_ok 3 (by decide)) (Nat.le_of_ble_eq_true rfl) d_Mod_keepDraft_40 ?_
  refine U_eq [(a0, .inr (11, [.ref a1, .ref a2, .int 3, .int 3, .int 0, .int 0, .ref a3, .int 3, .int 3, .int 1, .int 10, .int 0, .ref a4, .int (-4), .ref a5, .int 0, .int 0, .int 0, .int 0, .int 0, .int 0, .int 0, .ref a6, .ref a7, .ref a8, .int 0, .long 0, .ref a9, .int 0, .ref a10, .int 0, .ref a11, .ref a12, .ref a13, .ref a14, .int 0, .ref a15])), (a1, .inl (ca 0, 432, .inl (fun i => if i < 144 then dr0 i else 0))), (a2, .inl (ca 2, 2, .inl (fun _ => 0))), (a3, .inl (ca 0, 144, .inl dr0)), (a4, .inl (ca 0, 6, .inl (fun _ => 0))), (a5, .inl (ca 0, 160, .inl (fun _ => 0))), (a6, .inl (ca 0, 128, .inl (fun _ => 0))), (a7, .inl (ca 0, 4, .inl (fun _ => 0))), (a8, .inl (ca 0, 4, .inl (fun _ => 0))), (a9, .inl (ca 0, 48, .inl (fun _ => 0))), (a10, .inl (ca 0, 4, .inl (fun _ => 0))), (a11, .inl (ca 0, 16, .inl (fun _ => 0))), (a12, .inl (ca 0, 4, .inl (fun _ => -4))), (a13, .inl (ca 0, 4, .inl (fun _ => 0))), (a14, .inl (ca 0, 160, .inl (fun _ => 0))), (a15, .inl (ca 0, 20, .inl (fun _ => 0)))] rfl ?_
  refine U_aload_n 0 d_Mod_keepDraft_43 rfl rfl ?_
  refine U_aload_n 0 d_Mod_keepDraft_44 rfl rfl ?_
  refine U_get (.int 1) 0 fa_Mod_69 rfl rfl d_Mod_keepDraft_45 ?_
  refine U_putI t_Mod 0 rfl rfl i_Mod t_Mod_ok n_Mod (by decide) fl_Mod_87 rfl (t_Mod_ok 4 (by decide)) (Nat.le_of_ble_eq_true rfl) d_Mod_keepDraft_48 ?_
  refine U_eq [(a0, .inr (11, [.ref a1, .ref a2, .int 3, .int 3, .int 1, .int 0, .ref a3, .int 3, .int 3, .int 1, .int 10, .int 0, .ref a4, .int (-4), .ref a5, .int 0, .int 0, .int 0, .int 0, .int 0, .int 0, .int 0, .ref a6, .ref a7, .ref a8, .int 0, .long 0, .ref a9, .int 0, .ref a10, .int 0, .ref a11, .ref a12, .ref a13, .ref a14, .int 0, .ref a15])), (a1, .inl (ca 0, 432, .inl (fun i => if i < 144 then dr0 i else 0))), (a2, .inl (ca 2, 2, .inl (fun _ => 0))), (a3, .inl (ca 0, 144, .inl dr0)), (a4, .inl (ca 0, 6, .inl (fun _ => 0))), (a5, .inl (ca 0, 160, .inl (fun _ => 0))), (a6, .inl (ca 0, 128, .inl (fun _ => 0))), (a7, .inl (ca 0, 4, .inl (fun _ => 0))), (a8, .inl (ca 0, 4, .inl (fun _ => 0))), (a9, .inl (ca 0, 48, .inl (fun _ => 0))), (a10, .inl (ca 0, 4, .inl (fun _ => 0))), (a11, .inl (ca 0, 16, .inl (fun _ => 0))), (a12, .inl (ca 0, 4, .inl (fun _ => -4))), (a13, .inl (ca 0, 4, .inl (fun _ => 0))), (a14, .inl (ca 0, 160, .inl (fun _ => 0))), (a15, .inl (ca 0, 20, .inl (fun _ => 0)))] rfl ?_
  refine U_aload_n 0 d_Mod_keepDraft_51 rfl rfl ?_
  refine U_aload_n 0 d_Mod_keepDraft_52 rfl rfl ?_
  refine U_get (.int 10) 0 fa_Mod_72 rfl rfl d_Mod_keepDraft_53 ?_
  refine U_putI t_Mod 0 rfl rfl i_Mod t_Mod_ok n_Mod (by decide) fl_Mod_90 rfl (t_Mod_ok 5 (by decide)) (Nat.le_of_ble_eq_true rfl) d_Mod_keepDraft_56 ?_
  refine U_eq [(a0, .inr (11, [.ref a1, .ref a2, .int 3, .int 3, .int 1, .int 10, .ref a3, .int 3, .int 3, .int 1, .int 10, .int 0, .ref a4, .int (-4), .ref a5, .int 0, .int 0, .int 0, .int 0, .int 0, .int 0, .int 0, .ref a6, .ref a7, .ref a8, .int 0, .long 0, .ref a9, .int 0, .ref a10, .int 0, .ref a11, .ref a12, .ref a13, .ref a14, .int 0, .ref a15])), (a1, .inl (ca 0, 432, .inl (fun i => if i < 144 then dr0 i else 0))), (a2, .inl (ca 2, 2, .inl (fun _ => 0))), (a3, .inl (ca 0, 144, .inl dr0)), (a4, .inl (ca 0, 6, .inl (fun _ => 0))), (a5, .inl (ca 0, 160, .inl (fun _ => 0))), (a6, .inl (ca 0, 128, .inl (fun _ => 0))), (a7, .inl (ca 0, 4, .inl (fun _ => 0))), (a8, .inl (ca 0, 4, .inl (fun _ => 0))), (a9, .inl (ca 0, 48, .inl (fun _ => 0))), (a10, .inl (ca 0, 4, .inl (fun _ => 0))), (a11, .inl (ca 0, 16, .inl (fun _ => 0))), (a12, .inl (ca 0, 4, .inl (fun _ => -4))), (a13, .inl (ca 0, 4, .inl (fun _ => 0))), (a14, .inl (ca 0, 160, .inl (fun _ => 0))), (a15, .inl (ca 0, 20, .inl (fun _ => 0)))] rfl ?_
  refine U_aload_n 0 d_Mod_keepDraft_59 rfl rfl ?_
  refine U_get (.ref a2) 0 fa_Mod_13 rfl rfl d_Mod_keepDraft_60 ?_
  refine U_iconst 0 d_Mod_keepDraft_63 (by decide) ?_
  refine U_iconst 0 d_Mod_keepDraft_64 (by decide) ?_
  refine U_zast (q0 := 2) rfl (vp_in_iff.mpr (by decide)) d_Mod_keepDraft_65 ?_
  refine U_eq [(a0, .inr (11, [.ref a1, .ref a2, .int 3, .int 3, .int 1, .int 10, .ref a3, .int 3, .int 3, .int 1, .int 10, .int 0, .ref a4, .int (-4), .ref a5, .int 0, .int 0, .int 0, .int 0, .int 0, .int 0, .int 0, .ref a6, .ref a7, .ref a8, .int 0, .long 0, .ref a9, .int 0, .ref a10, .int 0, .ref a11, .ref a12, .ref a13, .ref a14, .int 0, .ref a15])), (a1, .inl (ca 0, 432, .inl (fun i => if i < 144 then dr0 i else 0))), (a2, .inl (ca 2, 2, .inl (upd (fun _ => 0) 0 (vp_nar .boolean 0)))), (a3, .inl (ca 0, 144, .inl dr0)), (a4, .inl (ca 0, 6, .inl (fun _ => 0))), (a5, .inl (ca 0, 160, .inl (fun _ => 0))), (a6, .inl (ca 0, 128, .inl (fun _ => 0))), (a7, .inl (ca 0, 4, .inl (fun _ => 0))), (a8, .inl (ca 0, 4, .inl (fun _ => 0))), (a9, .inl (ca 0, 48, .inl (fun _ => 0))), (a10, .inl (ca 0, 4, .inl (fun _ => 0))), (a11, .inl (ca 0, 16, .inl (fun _ => 0))), (a12, .inl (ca 0, 4, .inl (fun _ => -4))), (a13, .inl (ca 0, 4, .inl (fun _ => 0))), (a14, .inl (ca 0, 160, .inl (fun _ => 0))), (a15, .inl (ca 0, 20, .inl (fun _ => 0)))] rfl ?_
  refine U_aload_n 0 d_Mod_keepDraft_66 rfl rfl ?_
  refine U_get (.ref a2) 0 fa_Mod_13 rfl rfl d_Mod_keepDraft_67 ?_
  refine U_iconst 1 d_Mod_keepDraft_70 (by decide) ?_
  refine U_iconst 0 d_Mod_keepDraft_71 (by decide) ?_
  refine U_zast (q0 := 2) rfl (vp_in_iff.mpr (by decide)) d_Mod_keepDraft_72 ?_
  refine U_eq [(a0, .inr (11, [.ref a1, .ref a2, .int 3, .int 3, .int 1, .int 10, .ref a3, .int 3, .int 3, .int 1, .int 10, .int 0, .ref a4, .int (-4), .ref a5, .int 0, .int 0, .int 0, .int 0, .int 0, .int 0, .int 0, .ref a6, .ref a7, .ref a8, .int 0, .long 0, .ref a9, .int 0, .ref a10, .int 0, .ref a11, .ref a12, .ref a13, .ref a14, .int 0, .ref a15])), (a1, .inl (ca 0, 432, .inl (fun i => if i < 144 then dr0 i else 0))), (a2, .inl (ca 2, 2, .inl (upd (upd (fun _ => 0) 0 (vp_nar .boolean 0)) 1 (vp_nar .boolean 0)))), (a3, .inl (ca 0, 144, .inl dr0)), (a4, .inl (ca 0, 6, .inl (fun _ => 0))), (a5, .inl (ca 0, 160, .inl (fun _ => 0))), (a6, .inl (ca 0, 128, .inl (fun _ => 0))), (a7, .inl (ca 0, 4, .inl (fun _ => 0))), (a8, .inl (ca 0, 4, .inl (fun _ => 0))), (a9, .inl (ca 0, 48, .inl (fun _ => 0))), (a10, .inl (ca 0, 4, .inl (fun _ => 0))), (a11, .inl (ca 0, 16, .inl (fun _ => 0))), (a12, .inl (ca 0, 4, .inl (fun _ => -4))), (a13, .inl (ca 0, 4, .inl (fun _ => 0))), (a14, .inl (ca 0, 160, .inl (fun _ => 0))), (a15, .inl (ca 0, 20, .inl (fun _ => 0)))] rfl ?_
  refine U_row (t := 2) (q0 := 2) (fun _ => 0) rfl (by decide) ?_
  refine U_eq [(a0, .inr (11, [.ref a1, .ref a2, .int 3, .int 3, .int 1, .int 10, .ref a3, .int 3, .int 3, .int 1, .int 10, .int 0, .ref a4, .int (-4), .ref a5, .int 0, .int 0, .int 0, .int 0, .int 0, .int 0, .int 0, .ref a6, .ref a7, .ref a8, .int 0, .long 0, .ref a9, .int 0, .ref a10, .int 0, .ref a11, .ref a12, .ref a13, .ref a14, .int 0, .ref a15])), (a1, .inl (ca 0, 432, .inl (fun i => if i < 144 then dr0 i else 0))), (a2, .inl (ca 2, 2, .inl (fun _ => 0))), (a3, .inl (ca 0, 144, .inl dr0)), (a4, .inl (ca 0, 6, .inl (fun _ => 0))), (a5, .inl (ca 0, 160, .inl (fun _ => 0))), (a6, .inl (ca 0, 128, .inl (fun _ => 0))), (a7, .inl (ca 0, 4, .inl (fun _ => 0))), (a8, .inl (ca 0, 4, .inl (fun _ => 0))), (a9, .inl (ca 0, 48, .inl (fun _ => 0))), (a10, .inl (ca 0, 4, .inl (fun _ => 0))), (a11, .inl (ca 0, 16, .inl (fun _ => 0))), (a12, .inl (ca 0, 4, .inl (fun _ => -4))), (a13, .inl (ca 0, 4, .inl (fun _ => 0))), (a14, .inl (ca 0, 160, .inl (fun _ => 0))), (a15, .inl (ca 0, 20, .inl (fun _ => 0)))] rfl ?_
  exact U_vret d_Mod_keepDraft_73 rfl rfl rfl
theorem d_Mod_init_0 : decode b_Mod_init 0 = .ok (.aload_n 0, 1) := dc_42 (by decide +kernel)
theorem d_Mod_init_1 : decode b_Mod_init 1 = .ok (.invokespecial 1, 3) := dc_183 (a := 0) (b := 1) (by decide +kernel) rfl
theorem d_Mod_init_4 : decode b_Mod_init 4 = .ok (.aload_n 0, 1) := dc_42 (by decide +kernel)
theorem d_Mod_init_5 : decode b_Mod_init 5 = .ok (.sipush 432, 3) := dc_17 (a := 1) (b := 176) (by decide +kernel) rfl
theorem d_Mod_init_8 : decode b_Mod_init 8 = .ok (.newarray .int, 2) := by decide +kernel
theorem d_Mod_init_10 : decode b_Mod_init 10 = .ok (.putfield 7, 3) := dc_181 (a := 0) (b := 7) (by decide +kernel) rfl
theorem d_Mod_init_13 : decode b_Mod_init 13 = .ok (.aload_n 0, 1) := dc_42 (by decide +kernel)
theorem d_Mod_init_14 : decode b_Mod_init 14 = .ok (.iconst 2, 1) := dc_5 (by decide +kernel)
theorem d_Mod_init_15 : decode b_Mod_init 15 = .ok (.newarray .boolean, 2) := by decide +kernel
theorem d_Mod_init_17 : decode b_Mod_init 17 = .ok (.putfield 13, 3) := dc_181 (a := 0) (b := 13) (by decide +kernel) rfl
theorem d_Mod_init_20 : decode b_Mod_init 20 = .ok (.aload_n 0, 1) := dc_42 (by decide +kernel)
theorem d_Mod_init_21 : decode b_Mod_init 21 = .ok (.sipush 144, 3) := dc_17 (a := 0) (b := 144) (by decide +kernel) rfl
theorem d_Mod_init_24 : decode b_Mod_init 24 = .ok (.newarray .int, 2) := by decide +kernel
theorem d_Mod_init_26 : decode b_Mod_init 26 = .ok (.putfield 17, 3) := dc_181 (a := 0) (b := 17) (by decide +kernel) rfl
theorem d_Mod_init_29 : decode b_Mod_init 29 = .ok (.aload_n 0, 1) := dc_42 (by decide +kernel)
theorem d_Mod_init_30 : decode b_Mod_init 30 = .ok (.bipush 6, 2) := dc_16 (a := 6) (by decide +kernel) rfl
theorem d_Mod_init_32 : decode b_Mod_init 32 = .ok (.newarray .int, 2) := by decide +kernel
theorem d_Mod_init_34 : decode b_Mod_init 34 = .ok (.putfield 20, 3) := dc_181 (a := 0) (b := 20) (by decide +kernel) rfl
theorem d_Mod_init_37 : decode b_Mod_init 37 = .ok (.aload_n 0, 1) := dc_42 (by decide +kernel)
theorem d_Mod_init_38 : decode b_Mod_init 38 = .ok (.sipush 160, 3) := dc_17 (a := 0) (b := 160) (by decide +kernel) rfl
theorem d_Mod_init_41 : decode b_Mod_init 41 = .ok (.newarray .int, 2) := by decide +kernel
theorem d_Mod_init_43 : decode b_Mod_init 43 = .ok (.putfield 23, 3) := dc_181 (a := 0) (b := 23) (by decide +kernel) rfl
theorem d_Mod_init_46 : decode b_Mod_init 46 = .ok (.aload_n 0, 1) := dc_42 (by decide +kernel)
theorem d_Mod_init_47 : decode b_Mod_init 47 = .ok (.sipush 128, 3) := dc_17 (a := 0) (b := 128) (by decide +kernel) rfl
theorem d_Mod_init_50 : decode b_Mod_init 50 = .ok (.newarray .int, 2) := by decide +kernel
theorem d_Mod_init_52 : decode b_Mod_init 52 = .ok (.putfield 26, 3) := dc_181 (a := 0) (b := 26) (by decide +kernel) rfl
theorem d_Mod_init_55 : decode b_Mod_init 55 = .ok (.aload_n 0, 1) := dc_42 (by decide +kernel)
theorem d_Mod_init_56 : decode b_Mod_init 56 = .ok (.iconst 4, 1) := dc_7 (by decide +kernel)
theorem d_Mod_init_57 : decode b_Mod_init 57 = .ok (.newarray .int, 2) := by decide +kernel
theorem d_Mod_init_59 : decode b_Mod_init 59 = .ok (.putfield 29, 3) := dc_181 (a := 0) (b := 29) (by decide +kernel) rfl
theorem d_Mod_init_62 : decode b_Mod_init 62 = .ok (.aload_n 0, 1) := dc_42 (by decide +kernel)
theorem d_Mod_init_63 : decode b_Mod_init 63 = .ok (.iconst 4, 1) := dc_7 (by decide +kernel)
theorem d_Mod_init_64 : decode b_Mod_init 64 = .ok (.newarray .int, 2) := by decide +kernel
theorem d_Mod_init_66 : decode b_Mod_init 66 = .ok (.putfield 32, 3) := dc_181 (a := 0) (b := 32) (by decide +kernel) rfl
theorem d_Mod_init_69 : decode b_Mod_init 69 = .ok (.aload_n 0, 1) := dc_42 (by decide +kernel)
theorem d_Mod_init_70 : decode b_Mod_init 70 = .ok (.bipush 48, 2) := dc_16 (a := 48) (by decide +kernel) rfl
theorem d_Mod_init_72 : decode b_Mod_init 72 = .ok (.newarray .int, 2) := by decide +kernel
theorem d_Mod_init_74 : decode b_Mod_init 74 = .ok (.putfield 35, 3) := dc_181 (a := 0) (b := 35) (by decide +kernel) rfl
theorem d_Mod_init_77 : decode b_Mod_init 77 = .ok (.aload_n 0, 1) := dc_42 (by decide +kernel)
theorem d_Mod_init_78 : decode b_Mod_init 78 = .ok (.iconst 4, 1) := dc_7 (by decide +kernel)
theorem d_Mod_init_79 : decode b_Mod_init 79 = .ok (.newarray .int, 2) := by decide +kernel
theorem d_Mod_init_81 : decode b_Mod_init 81 = .ok (.putfield 38, 3) := dc_181 (a := 0) (b := 38) (by decide +kernel) rfl
theorem d_Mod_init_84 : decode b_Mod_init 84 = .ok (.aload_n 0, 1) := dc_42 (by decide +kernel)
theorem d_Mod_init_85 : decode b_Mod_init 85 = .ok (.bipush 16, 2) := dc_16 (a := 16) (by decide +kernel) rfl
theorem d_Mod_init_87 : decode b_Mod_init 87 = .ok (.newarray .int, 2) := by decide +kernel
theorem d_Mod_init_89 : decode b_Mod_init 89 = .ok (.putfield 41, 3) := dc_181 (a := 0) (b := 41) (by decide +kernel) rfl
theorem d_Mod_init_92 : decode b_Mod_init 92 = .ok (.aload_n 0, 1) := dc_42 (by decide +kernel)
theorem d_Mod_init_93 : decode b_Mod_init 93 = .ok (.iconst 4, 1) := dc_7 (by decide +kernel)
theorem d_Mod_init_94 : decode b_Mod_init 94 = .ok (.newarray .int, 2) := by decide +kernel
theorem d_Mod_init_96 : decode b_Mod_init 96 = .ok (.putfield 44, 3) := dc_181 (a := 0) (b := 44) (by decide +kernel) rfl
theorem d_Mod_init_99 : decode b_Mod_init 99 = .ok (.aload_n 0, 1) := dc_42 (by decide +kernel)
theorem d_Mod_init_100 : decode b_Mod_init 100 = .ok (.iconst 4, 1) := dc_7 (by decide +kernel)
theorem d_Mod_init_101 : decode b_Mod_init 101 = .ok (.newarray .int, 2) := by decide +kernel
theorem d_Mod_init_103 : decode b_Mod_init 103 = .ok (.putfield 47, 3) := dc_181 (a := 0) (b := 47) (by decide +kernel) rfl
theorem d_Mod_init_106 : decode b_Mod_init 106 = .ok (.aload_n 0, 1) := dc_42 (by decide +kernel)
theorem d_Mod_init_107 : decode b_Mod_init 107 = .ok (.sipush 160, 3) := dc_17 (a := 0) (b := 160) (by decide +kernel) rfl
theorem d_Mod_init_110 : decode b_Mod_init 110 = .ok (.newarray .int, 2) := by decide +kernel
theorem d_Mod_init_112 : decode b_Mod_init 112 = .ok (.putfield 50, 3) := dc_181 (a := 0) (b := 50) (by decide +kernel) rfl
theorem d_Mod_init_115 : decode b_Mod_init 115 = .ok (.aload_n 0, 1) := dc_42 (by decide +kernel)
theorem d_Mod_init_116 : decode b_Mod_init 116 = .ok (.bipush 20, 2) := dc_16 (a := 20) (by decide +kernel) rfl
theorem d_Mod_init_118 : decode b_Mod_init 118 = .ok (.newarray .int, 2) := by decide +kernel
theorem d_Mod_init_120 : decode b_Mod_init 120 = .ok (.putfield 53, 3) := dc_181 (a := 0) (b := 53) (by decide +kernel) rfl
theorem d_Mod_init_123 : decode b_Mod_init 123 = .ok (.iconst 0, 1) := dc_3 (by decide +kernel)
theorem d_Mod_init_124 : decode b_Mod_init 124 = .ok (.istore_n 1, 1) := dc_60 (by decide +kernel)
theorem d_Mod_init_125 : decode b_Mod_init 125 = .ok (.iload_n 1, 1) := dc_27 (by decide +kernel)
theorem d_Mod_init_126 : decode b_Mod_init 126 = .ok (.iconst 4, 1) := dc_7 (by decide +kernel)
theorem d_Mod_init_127 : decode b_Mod_init 127 = .ok (.if_icmp .ge 17, 3) := dc_162 (a := 0) (b := 17) (by decide +kernel) rfl
theorem d_Mod_init_130 : decode b_Mod_init 130 = .ok (.aload_n 0, 1) := dc_42 (by decide +kernel)
theorem d_Mod_init_131 : decode b_Mod_init 131 = .ok (.getfield 44, 3) := dc_180 (a := 0) (b := 44) (by decide +kernel) rfl
theorem d_Mod_init_134 : decode b_Mod_init 134 = .ok (.iload_n 1, 1) := dc_27 (by decide +kernel)
theorem d_Mod_init_135 : decode b_Mod_init 135 = .ok (.bipush (-4), 2) := dc_16 (a := 252) (by decide +kernel) rfl
theorem d_Mod_init_137 : decode b_Mod_init 137 = .ok (.iastore, 1) := dc_79 (by decide +kernel)
theorem d_Mod_init_138 : decode b_Mod_init 138 = .ok (.iinc 1 1, 3) := dc_132 (a := 1) (b := 1) (by decide +kernel) rfl
theorem d_Mod_init_141 : decode b_Mod_init 141 = .ok (.goto (-16), 3) := dc_167 (a := 255) (b := 240) (by decide +kernel) rfl
theorem d_Mod_init_144 : decode b_Mod_init 144 = .ok (.aload_n 0, 1) := dc_42 (by decide +kernel)
theorem d_Mod_init_145 : decode b_Mod_init 145 = .ok (.invokevirtual 56, 3) := dc_182 (a := 0) (b := 56) (by decide +kernel) rfl
theorem d_Mod_init_148 : decode b_Mod_init 148 = .ok (.aload_n 0, 1) := dc_42 (by decide +kernel)
theorem d_Mod_init_149 : decode b_Mod_init 149 = .ok (.invokevirtual 59, 3) := dc_182 (a := 0) (b := 59) (by decide +kernel) rfl
theorem d_Mod_init_152 : decode b_Mod_init 152 = .ok (.return_, 1) := dc_177 (by decide +kernel)
set_option maxRecDepth 100000 in
theorem k_Mod_init (D : va_G) (ca : Nat → ClassId) (a0 : Nat) : Cu y_Mod_init b_Mod_init 2 1 21 15 1136 D ca [.ref a0] [(a0, .inr (11, [.null, .null, .int 0, .int 0, .int 0, .int 0, .null, .int 0, .int 0, .int 0, .int 0, .int 0, .null, .int 0, .null, .int 0, .int 0, .int 0, .int 0, .int 0, .int 0, .int 0, .null, .null, .null, .int 0, .long 0, .null, .int 0, .null, .int 0, .null, .null, .null, .null, .int 0, .null]))] (fun w => ∃ (q1 : Nat) (q2 : Nat) (q3 : Nat) (q4 : Nat) (q5 : Nat) (q6 : Nat) (q7 : Nat) (q8 : Nat) (q9 : Nat) (q10 : Nat) (q11 : Nat) (q12 : Nat) (q13 : Nat) (q14 : Nat) (q15 : Nat), w = [(a0, .inr (11, [.ref q1, .ref q2, .int 3, .int 3, .int 1, .int 10, .ref q3, .int 3, .int 3, .int 1, .int 10, .int 0, .ref q4, .int (-4), .ref q5, .int 0, .int 0, .int 0, .int 0, .int 0, .int 0, .int 0, .ref q6, .ref q7, .ref q8, .int 0, .long 0, .ref q9, .int 0, .ref q10, .int 0, .ref q11, .ref q12, .ref q13, .ref q14, .int 0, .ref q15])), (q1, .inl (ca 0, 432, .inl (fun i => if i < 144 then dr0 i else 0))), (q2, .inl (ca 2, 2, .inl (fun _ => 0))), (q3, .inl (ca 0, 144, .inl dr0)), (q4, .inl (ca 0, 6, .inl (fun _ => 0))), (q5, .inl (ca 0, 160, .inl (fun _ => 0))), (q6, .inl (ca 0, 128, .inl (fun _ => 0))), (q7, .inl (ca 0, 4, .inl (fun _ => 0))), (q8, .inl (ca 0, 4, .inl (fun _ => 0))), (q9, .inl (ca 0, 48, .inl (fun _ => 0))), (q10, .inl (ca 0, 4, .inl (fun _ => 0))), (q11, .inl (ca 0, 16, .inl (fun _ => 0))), (q12, .inl (ca 0, 4, .inl (fun _ => -4))), (q13, .inl (ca 0, 4, .inl (fun _ => 0))), (q14, .inl (ca 0, 160, .inl (fun _ => 0))), (q15, .inl (ca 0, 20, .inl (fun _ => 0)))]) := by
  refine cu_of R_Mod true [some (.ref a0), none] rfl (fun _ => rfl) (by decide) rfl (Nat.le_of_ble_eq_true rfl) ?_
  refine U_aload_n 0 d_Mod_init_0 rfl rfl ?_
  refine U_obj wo_Mod_1 wo1 wo2 d_Mod_init_1 (by decide) (Nat.le_of_ble_eq_true rfl) ?_
  refine U_aload_n 0 d_Mod_init_4 rfl rfl ?_
  refine U_sipush 432 d_Mod_init_5 (by decide) ?_
  refine U_newI 432 (by decide) (by decide) wa_int (by decide) d_Mod_init_8 (by decide) (by decide) (fun q1 => ?_)
  refine U_eq [(a0, .inr (11, [.null, .null, .int 0, .int 0, .int 0, .int 0, .null, .int 0, .int 0, .int 0, .int 0, .int 0, .null, .int 0, .null, .int 0, .int 0, .int 0, .int 0, .int 0, .int 0, .int 0, .null, .null, .null, .int 0, .long 0, .null, .int 0, .null, .int 0, .null, .null, .null, .null, .int 0, .null])), (q1, .inl (ca 0, 432, .inl (fun _ => 0)))] rfl ?_
  refine U_putF (ty := t_Mod 0) t_Mod 0 rfl rfl i_Mod t_Mod_ok n_Mod (by decide) fl_Mod_7 rfl rfl rfl (t_Mod_ok 0 (by decide)) rfl rfl (Nat.le_of_ble_eq_true rfl) d_Mod_init_10 ?_
  refine U_eq [(a0, .inr (11, [.ref q1, .null, .int 0, .int 0, .int 0, .int 0, .null, .int 0, .int 0, .int 0, .int 0, .int 0, .null, .int 0, .null, .int 0, .int 0, .int 0, .int 0, .int 0, .int 0, .int 0, .null, .null, .null, .int 0, .long 0, .null, .int 0, .null, .int 0, .null, .null, .null, .null, .int 0, .null])), (q1, .inl (ca 0, 432, .inl (fun _ => 0)))] rfl ?_
  refine U_aload_n 0 d_Mod_init_13 rfl rfl ?_
  refine U_iconst 2 d_Mod_init_14 (by decide) ?_
  refine U_newZ 2 (by decide) (by decide) wa_boolean (by decide) d_Mod_init_15 (by decide) (by decide) (fun q2 => ?_)
  refine U_eq [(a0, .inr (11, [.ref q1, .null, .int 0, .int 0, .int 0, .int 0, .null, .int 0, .int 0, .int 0, .int 0, .int 0, .null, .int 0, .null, .int 0, .int 0, .int 0, .int 0, .int 0, .int 0, .int 0, .null, .null, .null, .int 0, .long 0, .null, .int 0, .null, .int 0, .null, .null, .null, .null, .int 0, .null])), (q1, .inl (ca 0, 432, .inl (fun _ => 0))), (q2, .inl (ca 2, 2, .inl (fun _ => 0)))] rfl ?_
  refine U_putF (ty := t_Mod 1) t_Mod 0 rfl rfl i_Mod t_Mod_ok n_Mod (by decide) fl_Mod_13 rfl rfl rfl (t_Mod_ok 1 (by decide)) rfl rfl (Nat.le_of_ble_eq_true rfl) d_Mod_init_17 ?_
  refine U_eq [(a0, .inr (11, [.ref q1, .ref q2, .int 0, .int 0, .int 0, .int 0, .null, .int 0, .int 0, .int 0, .int 0, .int 0, .null, .int 0, .null, .int 0, .int 0, .int 0, .int 0, .int 0, .int 0, .int 0, .null, .null, .null, .int 0, .long 0, .null, .int 0, .null, .int 0, .null, .null, .null, .null, .int 0, .null])), (q1, .inl (ca 0, 432, .inl (fun _ => 0))), (q2, .inl (ca 2, 2, .inl (fun _ => 0)))] rfl ?_
  refine U_aload_n 0 d_Mod_init_20 rfl rfl ?_
  refine U_sipush 144 d_Mod_init_21 (by decide) ?_
  refine U_newI 144 (by decide) (by decide) wa_int (by decide) d_Mod_init_24 (by decide) (by decide) (fun q3 => ?_)
  refine U_eq [(a0, .inr (11, [.ref q1, .ref q2, .int 0, .int 0, .int 0, .int 0, .null, .int 0, .int 0, .int 0, .int 0, .int 0, .null, .int 0, .null, .int 0, .int 0, .int 0, .int 0, .int 0, .int 0, .int 0, .null, .null, .null, .int 0, .long 0, .null, .int 0, .null, .int 0, .null, .null, .null, .null, .int 0, .null])), (q1, .inl (ca 0, 432, .inl (fun _ => 0))), (q2, .inl (ca 2, 2, .inl (fun _ => 0))), (q3, .inl (ca 0, 144, .inl (fun _ => 0)))] rfl ?_
  refine U_putF (ty := t_Mod 6) t_Mod 0 rfl rfl i_Mod t_Mod_ok n_Mod (by decide) fl_Mod_17 rfl rfl rfl (t_Mod_ok 6 (by decide)) rfl rfl (Nat.le_of_ble_eq_true rfl) d_Mod_init_26 ?_
  refine U_eq [(a0, .inr (11, [.ref q1, .ref q2, .int 0, .int 0, .int 0, .int 0, .ref q3, .int 0, .int 0, .int 0, .int 0, .int 0, .null, .int 0, .null, .int 0, .int 0, .int 0, .int 0, .int 0, .int 0, .int 0, .null, .null, .null, .int 0, .long 0, .null, .int 0, .null, .int 0, .null, .null, .null, .null, .int 0, .null])), (q1, .inl (ca 0, 432, .inl (fun _ => 0))), (q2, .inl (ca 2, 2, .inl (fun _ => 0))), (q3, .inl (ca 0, 144, .inl (fun _ => 0)))] rfl ?_
  refine U_aload_n 0 d_Mod_init_29 rfl rfl ?_
  refine U_bipush 6 d_Mod_init_30 (by decide) ?_
  refine U_newI 6 (by decide) (by decide) wa_int (by decide) d_Mod_init_32 (by decide) (by decide) (fun q4 => ?_)
  refine U_eq [(a0, .inr (11, [.ref q1, .ref q2, .int 0, .int 0, .int 0, .int 0, .ref q3, .int 0, .int 0, .int 0, .int 0, .int 0, .null, .int 0, .null, .int 0, .int 0, .int 0, .int 0, .int 0, .int 0, .int 0, .null, .null, .null, .int 0, .long 0, .null, .int 0, .null, .int 0, .null, .null, .null, .null, .int 0, .null])), (q1, .inl (ca 0, 432, .inl (fun _ => 0))), (q2, .inl (ca 2, 2, .inl (fun _ => 0))), (q3, .inl (ca 0, 144, .inl (fun _ => 0))), (q4, .inl (ca 0, 6, .inl (fun _ => 0)))] rfl ?_
  refine U_putF (ty := t_Mod 12) t_Mod 0 rfl rfl i_Mod t_Mod_ok n_Mod (by decide) fl_Mod_20 rfl rfl rfl (t_Mod_ok 12 (by decide)) rfl rfl (Nat.le_of_ble_eq_true rfl) d_Mod_init_34 ?_
  refine U_eq [(a0, .inr (11, [.ref q1, .ref q2, .int 0, .int 0, .int 0, .int 0, .ref q3, .int 0, .int 0, .int 0, .int 0, .int 0, .ref q4, .int 0, .null, .int 0, .int 0, .int 0, .int 0, .int 0, .int 0, .int 0, .null, .null, .null, .int 0, .long 0, .null, .int 0, .null, .int 0, .null, .null, .null, .null, .int 0, .null])), (q1, .inl (ca 0, 432, .inl (fun _ => 0))), (q2, .inl (ca 2, 2, .inl (fun _ => 0))), (q3, .inl (ca 0, 144, .inl (fun _ => 0))), (q4, .inl (ca 0, 6, .inl (fun _ => 0)))] rfl ?_
  refine U_aload_n 0 d_Mod_init_37 rfl rfl ?_
  refine U_sipush 160 d_Mod_init_38 (by decide) ?_
  refine U_newI 160 (by decide) (by decide) wa_int (by decide) d_Mod_init_41 (by decide) (by decide) (fun q5 => ?_)
  refine U_eq [(a0, .inr (11, [.ref q1, .ref q2, .int 0, .int 0, .int 0, .int 0, .ref q3, .int 0, .int 0, .int 0, .int 0, .int 0, .ref q4, .int 0, .null, .int 0, .int 0, .int 0, .int 0, .int 0, .int 0, .int 0, .null, .null, .null, .int 0, .long 0, .null, .int 0, .null, .int 0, .null, .null, .null, .null, .int 0, .null])), (q1, .inl (ca 0, 432, .inl (fun _ => 0))), (q2, .inl (ca 2, 2, .inl (fun _ => 0))), (q3, .inl (ca 0, 144, .inl (fun _ => 0))), (q4, .inl (ca 0, 6, .inl (fun _ => 0))), (q5, .inl (ca 0, 160, .inl (fun _ => 0)))] rfl ?_
  refine U_putF (ty := t_Mod 14) t_Mod 0 rfl rfl i_Mod t_Mod_ok n_Mod (by decide) fl_Mod_23 rfl rfl rfl (t_Mod_ok 14 (by decide)) rfl rfl (Nat.le_of_ble_eq_true rfl) d_Mod_init_43 ?_
  refine U_eq [(a0, .inr (11, [.ref q1, .ref q2, .int 0, .int 0, .int 0, .int 0, .ref q3, .int 0, .int 0, .int 0, .int 0, .int 0, .ref q4, .int 0, .ref q5, .int 0, .int 0, .int 0, .int 0, .int 0, .int 0, .int 0, .null, .null, .null, .int 0, .long 0, .null, .int 0, .null, .int 0, .null, .null, .null, .null, .int 0, .null])), (q1, .inl (ca 0, 432, .inl (fun _ => 0))), (q2, .inl (ca 2, 2, .inl (fun _ => 0))), (q3, .inl (ca 0, 144, .inl (fun _ => 0))), (q4, .inl (ca 0, 6, .inl (fun _ => 0))), (q5, .inl (ca 0, 160, .inl (fun _ => 0)))] rfl ?_
  refine U_aload_n 0 d_Mod_init_46 rfl rfl ?_
  refine U_sipush 128 d_Mod_init_47 (by decide) ?_
  refine U_newI 128 (by decide) (by decide) wa_int (by decide) d_Mod_init_50 (by decide) (by decide) (fun q6 => ?_)
  refine U_eq [(a0, .inr (11, [.ref q1, .ref q2, .int 0, .int 0, .int 0, .int 0, .ref q3, .int 0, .int 0, .int 0, .int 0, .int 0, .ref q4, .int 0, .ref q5, .int 0, .int 0, .int 0, .int 0, .int 0, .int 0, .int 0, .null, .null, .null, .int 0, .long 0, .null, .int 0, .null, .int 0, .null, .null, .null, .null, .int 0, .null])), (q1, .inl (ca 0, 432, .inl (fun _ => 0))), (q2, .inl (ca 2, 2, .inl (fun _ => 0))), (q3, .inl (ca 0, 144, .inl (fun _ => 0))), (q4, .inl (ca 0, 6, .inl (fun _ => 0))), (q5, .inl (ca 0, 160, .inl (fun _ => 0))), (q6, .inl (ca 0, 128, .inl (fun _ => 0)))] rfl ?_
  refine U_putF (ty := t_Mod 22) t_Mod 0 rfl rfl i_Mod t_Mod_ok n_Mod (by decide) fl_Mod_26 rfl rfl rfl (t_Mod_ok 22 (by decide)) rfl rfl (Nat.le_of_ble_eq_true rfl) d_Mod_init_52 ?_
  refine U_eq [(a0, .inr (11, [.ref q1, .ref q2, .int 0, .int 0, .int 0, .int 0, .ref q3, .int 0, .int 0, .int 0, .int 0, .int 0, .ref q4, .int 0, .ref q5, .int 0, .int 0, .int 0, .int 0, .int 0, .int 0, .int 0, .ref q6, .null, .null, .int 0, .long 0, .null, .int 0, .null, .int 0, .null, .null, .null, .null, .int 0, .null])), (q1, .inl (ca 0, 432, .inl (fun _ => 0))), (q2, .inl (ca 2, 2, .inl (fun _ => 0))), (q3, .inl (ca 0, 144, .inl (fun _ => 0))), (q4, .inl (ca 0, 6, .inl (fun _ => 0))), (q5, .inl (ca 0, 160, .inl (fun _ => 0))), (q6, .inl (ca 0, 128, .inl (fun _ => 0)))] rfl ?_
  refine U_aload_n 0 d_Mod_init_55 rfl rfl ?_
  refine U_iconst 4 d_Mod_init_56 (by decide) ?_
  refine U_newI 4 (by decide) (by decide) wa_int (by decide) d_Mod_init_57 (by decide) (by decide) (fun q7 => ?_)
  refine U_eq [(a0, .inr (11, [.ref q1, .ref q2, .int 0, .int 0, .int 0, .int 0, .ref q3, .int 0, .int 0, .int 0, .int 0, .int 0, .ref q4, .int 0, .ref q5, .int 0, .int 0, .int 0, .int 0, .int 0, .int 0, .int 0, .ref q6, .null, .null, .int 0, .long 0, .null, .int 0, .null, .int 0, .null, .null, .null, .null, .int 0, .null])), (q1, .inl (ca 0, 432, .inl (fun _ => 0))), (q2, .inl (ca 2, 2, .inl (fun _ => 0))), (q3, .inl (ca 0, 144, .inl (fun _ => 0))), (q4, .inl (ca 0, 6, .inl (fun _ => 0))), (q5, .inl (ca 0, 160, .inl (fun _ => 0))), (q6, .inl (ca 0, 128, .inl (fun _ => 0))), (q7, .inl (ca 0, 4, .inl (fun _ => 0)))] rfl ?_
  refine U_putF (ty := t_Mod 23) t_Mod 0 rfl rfl i_Mod t_Mod_ok n_Mod (by decide) fl_Mod_29 rfl rfl rfl (t_Mod_ok 23 (by decide)) rfl rfl (Nat.le_of_ble_eq_true rfl) d_Mod_init_59 ?_
  refine U_eq [(a0, .inr (11, [.ref q1, .ref q2, .int 0, .int 0, .int 0, .int 0, .ref q3, .int 0, .int 0, .int 0, .int 0, .int 0, .ref q4, .int 0, .ref q5, .int 0, .int 0, .int 0, .int 0, .int 0, .int 0, .int 0, .ref q6, .ref q7, .null, .int 0, .long 0, .null, .int 0, .null, .int 0, .null, .null, .null, .null, .int 0, .null])), (q1, .inl (ca 0, 432, .inl (fun _ => 0))), (q2, .inl (ca 2, 2, .inl (fun _ => 0))), (q3, .inl (ca 0, 144, .inl (fun _ => 0))), (q4, .inl (ca 0, 6, .inl (fun _ => 0))), (q5, .inl (ca 0, 160, .inl (fun _ => 0))), (q6, .inl (ca 0, 128, .inl (fun _ => 0))), (q7, .inl (ca 0, 4, .inl (fun _ => 0)))] rfl ?_
  refine U_aload_n 0 d_Mod_init_62 rfl rfl ?_
  refine U_iconst 4 d_Mod_init_63 (by decide) ?_
  refine U_newI 4 (by decide) (by decide) wa_int (by decide) d_Mod_init_64 (by decide) (by decide) (fun q8 => ?_)
  refine U_eq [(a0, .inr (11, [.ref q1, .ref q2, .int 0, .int 0, .int 0, .int 0, .ref q3, .int 0, .int 0, .int 0, .int 0, .int 0, .ref q4, .int 0, .ref q5, .int 0, .int 0, .int 0, .int 0, .int 0, .int 0, .int 0, .ref q6, .ref q7, .null, .int 0, .long 0, .null, .int 0, .null, .int 0, .null, .null, .null, .null, .int 0, .null])), (q1, .inl (ca 0, 432, .inl (fun _ => 0))), (q2, .inl (ca 2, 2, .inl (fun _ => 0))), (q3, .inl (ca 0, 144, .inl (fun _ => 0))), (q4, .inl (ca 0, 6, .inl (fun _ => 0))), (q5, .inl (ca 0, 160, .inl (fun _ => 0))), (q6, .inl (ca 0, 128, .inl (fun _ => 0))), (q7, .inl (ca 0, 4, .inl (fun _ => 0))), (q8, .inl (ca 0, 4, .inl (fun _ => 0)))] rfl ?_
  refine U_putF (ty := t_Mod 24) t_Mod 0 rfl rfl i_Mod t_Mod_ok n_Mod (by decide) fl_Mod_32 rfl rfl rfl (t_Mod_ok 24 (by decide)) rfl rfl (Nat.le_of_ble_eq_true rfl) d_Mod_init_66 ?_
  refine U_eq [(a0, .inr (11, [.ref q1, .ref q2, .int 0, .int 0, .int 0, .int 0, .ref q3, .int 0, .int 0, .int 0, .int 0, .int 0, .ref q4, .int 0, .ref q5, .int 0, .int 0, .int 0, .int 0, .int 0, .int 0, .int 0, .ref q6, .ref q7, .ref q8, .int 0, .long 0, .null, .int 0, .null, .int 0, .null, .null, .null, .null, .int 0, .null])), (q1, .inl (ca 0, 432, .inl (fun _ => 0))), (q2, .inl (ca 2, 2, .inl (fun _ => 0))), (q3, .inl (ca 0, 144, .inl (fun _ => 0))), (q4, .inl (ca 0, 6, .inl (fun _ => 0))), (q5, .inl (ca 0, 160, .inl (fun _ => 0))), (q6, .inl (ca 0, 128, .inl (fun _ => 0))), (q7, .inl (ca 0, 4, .inl (fun _ => 0))), (q8, .inl (ca 0, 4, .inl (fun _ => 0)))] rfl ?_
  refine U_aload_n 0 d_Mod_init_69 rfl rfl ?_
  refine U_bipush 48 d_Mod_init_70 (by decide) ?_
  refine U_newI 48 (by decide) (by decide) wa_int (by decide) d_Mod_init_72 (by decide) (by decide) (fun q9 => ?_)
  refine U_eq [(a0, .inr (11, [.ref q1, .ref q2, .int 0, .int 0, .int 0, .int 0, .ref q3, .int 0, .int 0, .int 0, .int 0, .int 0, .ref q4, .int 0, .ref q5, .int 0, .int 0, .int 0, .int 0, .int 0, .int 0, .int 0, .ref q6, .ref q7, .ref q8, .int 0, .long 0, .null, .int 0, .null, .int 0, .null, .null, .null, .null, .int 0, .null])), (q1, .inl (ca 0, 432, .inl (fun _ => 0))), (q2, .inl (ca 2, 2, .inl (fun _ => 0))), (q3, .inl (ca 0, 144, .inl (fun _ => 0))), (q4, .inl (ca 0, 6, .inl (fun _ => 0))), (q5, .inl (ca 0, 160, .inl (fun _ => 0))), (q6, .inl (ca 0, 128, .inl (fun _ => 0))), (q7, .inl (ca 0, 4, .inl (fun _ => 0))), (q8, .inl (ca 0, 4, .inl (fun _ => 0))), (q9, .inl (ca 0, 48, .inl (fun _ => 0)))] rfl ?_
  refine U_putF (ty := t_Mod 27) t_Mod 0 rfl rfl i_Mod t_Mod_ok n_Mod (by decide) fl_Mod_35 rfl rfl rfl (t_Mod_ok 27 (by decide)) rfl rfl (Nat.le_of_ble_eq_true rfl) d_Mod_init_74 ?_
  refine U_eq [(a0, .inr (11, [.ref q1, .ref q2, .int 0, .int 0, .int 0, .int 0, .ref q3, .int 0, .int 0, .int 0, .int 0, .int 0, .ref q4, .int 0, .ref q5, .int 0, .int 0, .int 0, .int 0, .int 0, .int 0, .int 0, .ref q6, .ref q7, .ref q8, .int 0, .long 0, .ref q9, .int 0, .null, .int 0, .null, .null, .null, .null, .int 0, .null])), (q1, .inl (ca 0, 432, .inl (fun _ => 0))), (q2, .inl (ca 2, 2, .inl (fun _ => 0))), (q3, .inl (ca 0, 144, .inl (fun _ => 0))), (q4, .inl (ca 0, 6, .inl (fun _ => 0))), (q5, .inl (ca 0, 160, .inl (fun _ => 0))), (q6, .inl (ca 0, 128, .inl (fun _ => 0))), (q7, .inl (ca 0, 4, .inl (fun _ => 0))), (q8, .inl (ca 0, 4, .inl (fun _ => 0))), (q9, .inl (ca 0, 48, .inl (fun _ => 0)))] rfl ?_
  refine U_aload_n 0 d_Mod_init_77 rfl rfl ?_
  refine U_iconst 4 d_Mod_init_78 (by decide) ?_
  refine U_newI 4 (by decide) (by decide) wa_int (by decide) d_Mod_init_79 (by decide) (by decide) (fun q10 => ?_)
  refine U_eq [(a0, .inr (11, [.ref q1, .ref q2, .int 0, .int 0, .int 0, .int 0, .ref q3, .int 0, .int 0, .int 0, .int 0, .int 0, .ref q4, .int 0, .ref q5, .int 0, .int 0, .int 0, .int 0, .int 0, .int 0, .int 0, .ref q6, .ref q7, .ref q8, .int 0, .long 0, .ref q9, .int 0, .null, .int 0, .null, .null, .null, .null, .int 0, .null])), (q1, .inl (ca 0, 432, .inl (fun _ => 0))), (q2, .inl (ca 2, 2, .inl (fun _ => 0))), (q3, .inl (ca 0, 144, .inl (fun _ => 0))), (q4, .inl (ca 0, 6, .inl (fun _ => 0))), (q5, .inl (ca 0, 160, .inl (fun _ => 0))), (q6, .inl (ca 0, 128, .inl (fun _ => 0))), (q7, .inl (ca 0, 4, .inl (fun _ => 0))), (q8, .inl (ca 0, 4, .inl (fun _ => 0))), (q9, .inl (ca 0, 48, .inl (fun _ => 0))), (q10, .inl (ca 0, 4, .inl (fun _ => 0)))] rfl ?_
  refine U_putF (ty := t_Mod 29) t_Mod 0 rfl rfl i_Mod t_Mod_ok n_Mod (by decide) fl_Mod_38 rfl rfl rfl (t_Mod_ok 29 (by decide)) rfl rfl (Nat.le_of_ble_eq_true rfl) d_Mod_init_81 ?_
  refine U_eq [(a0, .inr (11, [.ref q1, .ref q2, .int 0, .int 0, .int 0, .int 0, .ref q3, .int 0, .int 0, .int 0, .int 0, .int 0, .ref q4, .int 0, .ref q5, .int 0, .int 0, .int 0, .int 0, .int 0, .int 0, .int 0, .ref q6, .ref q7, .ref q8, .int 0, .long 0, .ref q9, .int 0, .ref q10, .int 0, .null, .null, .null, .null, .int 0, .null])), (q1, .inl (ca 0, 432, .inl (fun _ => 0))), (q2, .inl (ca 2, 2, .inl (fun _ => 0))), (q3, .inl (ca 0, 144, .inl (fun _ => 0))), (q4, .inl (ca 0, 6, .inl (fun _ => 0))), (q5, .inl (ca 0, 160, .inl (fun _ => 0))), (q6, .inl (ca 0, 128, .inl (fun _ => 0))), (q7, .inl (ca 0, 4, .inl (fun _ => 0))), (q8, .inl (ca 0, 4, .inl (fun _ => 0))), (q9, .inl (ca 0, 48, .inl (fun _ => 0))), (q10, .inl (ca 0, 4, .inl (fun _ => 0)))] rfl ?_
  refine U_aload_n 0 d_Mod_init_84 rfl rfl ?_
  refine U_bipush 16 d_Mod_init_85 (by decide) ?_
  refine U_newI 16 (by decide) (by decide) wa_int (by decide) d_Mod_init_87 (by decide) (by decide) (fun q11 => ?_)
  refine U_eq [(a0, .inr (11, [.ref q1, .ref q2, .int 0, .int 0, .int 0, .int 0, .ref q3, .int 0, .int 0, .int 0, .int 0, .int 0, .ref q4, .int 0, .ref q5, .int 0, .int 0, .int 0, .int 0, .int 0, .int 0, .int 0, .ref q6, .ref q7, .ref q8, .int 0, .long 0, .ref q9, .int 0, .ref q10, .int 0, .null, .null, .null, .null, .int 0, .null])), (q1, .inl (ca 0, 432, .inl (fun _ => 0))), (q2, .inl (ca 2, 2, .inl (fun _ => 0))), (q3, .inl (ca 0, 144, .inl (fun _ => 0))), (q4, .inl (ca 0, 6, .inl (fun _ => 0))), (q5, .inl (ca 0, 160, .inl (fun _ => 0))), (q6, .inl (ca 0, 128, .inl (fun _ => 0))), (q7, .inl (ca 0, 4, .inl (fun _ => 0))), (q8, .inl (ca 0, 4, .inl (fun _ => 0))), (q9, .inl (ca 0, 48, .inl (fun _ => 0))), (q10, .inl (ca 0, 4, .inl (fun _ => 0))), (q11, .inl (ca 0, 16, .inl (fun _ => 0)))] rfl ?_
  refine U_putF (ty := t_Mod 31) t_Mod 0 rfl rfl i_Mod t_Mod_ok n_Mod (by decide) fl_Mod_41 rfl rfl rfl (t_Mod_ok 31 (by decide)) rfl rfl (Nat.le_of_ble_eq_true rfl) d_Mod_init_89 ?_
  refine U_eq [(a0, .inr (11, [.ref q1, .ref q2, .int 0, .int 0, .int 0, .int 0, .ref q3, .int 0, .int 0, .int 0, .int 0, .int 0, .ref q4, .int 0, .ref q5, .int 0, .int 0, .int 0, .int 0, .int 0, .int 0, .int 0, .ref q6, .ref q7, .ref q8, .int 0, .long 0, .ref q9, .int 0, .ref q10, .int 0, .ref q11, .null, .null, .null, .int 0, .null])), (q1, .inl (ca 0, 432, .inl (fun _ => 0))), (q2, .inl (ca 2, 2, .inl (fun _ => 0))), (q3, .inl (ca 0, 144, .inl (fun _ => 0))), (q4, .inl (ca 0, 6, .inl (fun _ => 0))), (q5, .inl (ca 0, 160, .inl (fun _ => 0))), (q6, .inl (ca 0, 128, .inl (fun _ => 0))), (q7, .inl (ca 0, 4, .inl (fun _ => 0))), (q8, .inl (ca 0, 4, .inl (fun _ => 0))), (q9, .inl (ca 0, 48, .inl (fun _ => 0))), (q10, .inl (ca 0, 4, .inl (fun _ => 0))), (q11, .inl (ca 0, 16, .inl (fun _ => 0)))] rfl ?_
  refine U_aload_n 0 d_Mod_init_92 rfl rfl ?_
  refine U_iconst 4 d_Mod_init_93 (by decide) ?_
  refine U_newI 4 (by decide) (by decide) wa_int (by decide) d_Mod_init_94 (by decide) (by decide) (fun q12 => ?_)
  refine U_eq [(a0, .inr (11, [.ref q1, .ref q2, .int 0, .int 0, .int 0, .int 0, .ref q3, .int 0, .int 0, .int 0, .int 0, .int 0, .ref q4, .int 0, .ref q5, .int 0, .int 0, .int 0, .int 0, .int 0, .int 0, .int 0, .ref q6, .ref q7, .ref q8, .int 0, .long 0, .ref q9, .int 0, .ref q10, .int 0, .ref q11, .null, .null, .null, .int 0, .null])), (q1, .inl (ca 0, 432, .inl (fun _ => 0))), (q2, .inl (ca 2, 2, .inl (fun _ => 0))), (q3, .inl (ca 0, 144, .inl (fun _ => 0))), (q4, .inl (ca 0, 6, .inl (fun _ => 0))), (q5, .inl (ca 0, 160, .inl (fun _ => 0))), (q6, .inl (ca 0, 128, .inl (fun _ => 0))), (q7, .inl (ca 0, 4, .inl (fun _ => 0))), (q8, .inl (ca 0, 4, .inl (fun _ => 0))), (q9, .inl (ca 0, 48, .inl (fun _ => 0))), (q10, .inl (ca 0, 4, .inl (fun _ => 0))), (q11, .inl (ca 0, 16, .inl (fun _ => 0))), (q12, .inl (ca 0, 4, .inl (fun _ => 0)))] rfl ?_
  refine U_putF (ty := t_Mod 32) t_Mod 0 rfl rfl i_Mod t_Mod_ok n_Mod (by decide) fl_Mod_44 rfl rfl rfl (t_Mod_ok 32 (by decide)) rfl rfl (Nat.le_of_ble_eq_true rfl) d_Mod_init_96 ?_
  refine U_eq [(a0, .inr (11, [.ref q1, .ref q2, .int 0, .int 0, .int 0, .int 0, .ref q3, .int 0, .int 0, .int 0, .int 0, .int 0, .ref q4, .int 0, .ref q5, .int 0, .int 0, .int 0, .int 0, .int 0, .int 0, .int 0, .ref q6, .ref q7, .ref q8, .int 0, .long 0, .ref q9, .int 0, .ref q10, .int 0, .ref q11, .ref q12, .null, .null, .int 0, .null])), (q1, .inl (ca 0, 432, .inl (fun _ => 0))), (q2, .inl (ca 2, 2, .inl (fun _ => 0))), (q3, .inl (ca 0, 144, .inl (fun _ => 0))), (q4, .inl (ca 0, 6, .inl (fun _ => 0))), (q5, .inl (ca 0, 160, .inl (fun _ => 0))), (q6, .inl (ca 0, 128, .inl (fun _ => 0))), (q7, .inl (ca 0, 4, .inl (fun _ => 0))), (q8, .inl (ca 0, 4, .inl (fun _ => 0))), (q9, .inl (ca 0, 48, .inl (fun _ => 0))), (q10, .inl (ca 0, 4, .inl (fun _ => 0))), (q11, .inl (ca 0, 16, .inl (fun _ => 0))), (q12, .inl (ca 0, 4, .inl (fun _ => 0)))] rfl ?_
  refine U_aload_n 0 d_Mod_init_99 rfl rfl ?_
  refine U_iconst 4 d_Mod_init_100 (by decide) ?_
  refine U_newI 4 (by decide) (by decide) wa_int (by decide) d_Mod_init_101 (by decide) (by decide) (fun q13 => ?_)
  refine U_eq [(a0, .inr (11, [.ref q1, .ref q2, .int 0, .int 0, .int 0, .int 0, .ref q3, .int 0, .int 0, .int 0, .int 0, .int 0, .ref q4, .int 0, .ref q5, .int 0, .int 0, .int 0, .int 0, .int 0, .int 0, .int 0, .ref q6, .ref q7, .ref q8, .int 0, .long 0, .ref q9, .int 0, .ref q10, .int 0, .ref q11, .ref q12, .null, .null, .int 0, .null])), (q1, .inl (ca 0, 432, .inl (fun _ => 0))), (q2, .inl (ca 2, 2, .inl (fun _ => 0))), (q3, .inl (ca 0, 144, .inl (fun _ => 0))), (q4, .inl (ca 0, 6, .inl (fun _ => 0))), (q5, .inl (ca 0, 160, .inl (fun _ => 0))), (q6, .inl (ca 0, 128, .inl (fun _ => 0))), (q7, .inl (ca 0, 4, .inl (fun _ => 0))), (q8, .inl (ca 0, 4, .inl (fun _ => 0))), (q9, .inl (ca 0, 48, .inl (fun _ => 0))), (q10, .inl (ca 0, 4, .inl (fun _ => 0))), (q11, .inl (ca 0, 16, .inl (fun _ => 0))), (q12, .inl (ca 0, 4, .inl (fun _ => 0))), (q13, .inl (ca 0, 4, .inl (fun _ => 0)))] rfl ?_
  refine U_putF (ty := t_Mod 33) t_Mod 0 rfl rfl i_Mod t_Mod_ok n_Mod (by decide) fl_Mod_47 rfl rfl rfl (t_Mod_ok 33 (by decide)) rfl rfl (Nat.le_of_ble_eq_true rfl) d_Mod_init_103 ?_
  refine U_eq [(a0, .inr (11, [.ref q1, .ref q2, .int 0, .int 0, .int 0, .int 0, .ref q3, .int 0, .int 0, .int 0, .int 0, .int 0, .ref q4, .int 0, .ref q5, .int 0, .int 0, .int 0, .int 0, .int 0, .int 0, .int 0, .ref q6, .ref q7, .ref q8, .int 0, .long 0, .ref q9, .int 0, .ref q10, .int 0, .ref q11, .ref q12, .ref q13, .null, .int 0, .null])), (q1, .inl (ca 0, 432, .inl (fun _ => 0))), (q2, .inl (ca 2, 2, .inl (fun _ => 0))), (q3, .inl (ca 0, 144, .inl (fun _ => 0))), (q4, .inl (ca 0, 6, .inl (fun _ => 0))), (q5, .inl (ca 0, 160, .inl (fun _ => 0))), (q6, .inl (ca 0, 128, .inl (fun _ => 0))), (q7, .inl (ca 0, 4, .inl (fun _ => 0))), (q8, .inl (ca 0, 4, .inl (fun _ => 0))), (q9, .inl (ca 0, 48, .inl (fun _ => 0))), (q10, .inl (ca 0, 4, .inl (fun _ => 0))), (q11, .inl (ca 0, 16, .inl (fun _ => 0))), (q12, .inl (ca 0, 4, .inl (fun _ => 0))), (q13, .inl (ca 0, 4, .inl (fun _ => 0)))] rfl ?_
  refine U_aload_n 0 d_Mod_init_106 rfl rfl ?_
  refine U_sipush 160 d_Mod_init_107 (by decide) ?_
  refine U_newI 160 (by decide) (by decide) wa_int (by decide) d_Mod_init_110 (by decide) (by decide) (fun q14 => ?_)
  refine U_eq [(a0, .inr (11, [.ref q1, .ref q2, .int 0, .int 0, .int 0, .int 0, .ref q3, .int 0, .int 0, .int 0, .int 0, .int 0, .ref q4, .int 0, .ref q5, .int 0, .int 0, .int 0, .int 0, .int 0, .int 0, .int 0, .ref q6, .ref q7, .ref q8, .int 0, .long 0, .ref q9, .int 0, .ref q10, .int 0, .ref q11, .ref q12, .ref q13, .null, .int 0, .null])), (q1, .inl (ca 0, 432, .inl (fun _ => 0))), (q2, .inl (ca 2, 2, .inl (fun _ => 0))), (q3, .inl (ca 0, 144, .inl (fun _ => 0))), (q4, .inl (ca 0, 6, .inl (fun _ => 0))), (q5, .inl (ca 0, 160, .inl (fun _ => 0))), (q6, .inl (ca 0, 128, .inl (fun _ => 0))), (q7, .inl (ca 0, 4, .inl (fun _ => 0))), (q8, .inl (ca 0, 4, .inl (fun _ => 0))), (q9, .inl (ca 0, 48, .inl (fun _ => 0))), (q10, .inl (ca 0, 4, .inl (fun _ => 0))), (q11, .inl (ca 0, 16, .inl (fun _ => 0))), (q12, .inl (ca 0, 4, .inl (fun _ => 0))), (q13, .inl (ca 0, 4, .inl (fun _ => 0))), (q14, .inl (ca 0, 160, .inl (fun _ => 0)))] rfl ?_
  refine U_putF (ty := t_Mod 34) t_Mod 0 rfl rfl i_Mod t_Mod_ok n_Mod (by decide) fl_Mod_50 rfl rfl rfl (t_Mod_ok 34 (by decide)) rfl rfl (Nat.le_of_ble_eq_true rfl) d_Mod_init_112 ?_
  refine U_eq [(a0, .inr (11, [.ref q1, .ref q2, .int 0, .int 0, .int 0, .int 0, .ref q3, .int 0, .int 0, .int 0, .int 0, .int 0, .ref q4, .int 0, .ref q5, .int 0, .int 0, .int 0, .int 0, .int 0, .int 0, .int 0, .ref q6, .ref q7, .ref q8, .int 0, .long 0, .ref q9, .int 0, .ref q10, .int 0, .ref q11, .ref q12, .ref q13, .ref q14, .int 0, .null])), (q1, .inl (ca 0, 432, .inl (fun _ => 0))), (q2, .inl (ca 2, 2, .inl (fun _ => 0))), (q3, .inl (ca 0, 144, .inl (fun _ => 0))), (q4, .inl (ca 0, 6, .inl (fun _ => 0))), (q5, .inl (ca 0, 160, .inl (fun _ => 0))), (q6, .inl (ca 0, 128, .inl (fun _ => 0))), (q7, .inl (ca 0, 4, .inl (fun _ => 0))), (q8, .inl (ca 0, 4, .inl (fun _ => 0))), (q9, .inl (ca 0, 48, .inl (fun _ => 0))), (q10, .inl (ca 0, 4, .inl (fun _ => 0))), (q11, .inl (ca 0, 16, .inl (fun _ => 0))), (q12, .inl (ca 0, 4, .inl (fun _ => 0))), (q13, .inl (ca 0, 4, .inl (fun _ => 0))), (q14, .inl (ca 0, 160, .inl (fun _ => 0)))] rfl ?_
  refine U_aload_n 0 d_Mod_init_115 rfl rfl ?_
  refine U_bipush 20 d_Mod_init_116 (by decide) ?_
  refine U_newI 20 (by decide) (by decide) wa_int (by decide) d_Mod_init_118 (by decide) (by decide) (fun q15 => ?_)
  refine U_eq [(a0, .inr (11, [.ref q1, .ref q2, .int 0, .int 0, .int 0, .int 0, .ref q3, .int 0, .int 0, .int 0, .int 0, .int 0, .ref q4, .int 0, .ref q5, .int 0, .int 0, .int 0, .int 0, .int 0, .int 0, .int 0, .ref q6, .ref q7, .ref q8, .int 0, .long 0, .ref q9, .int 0, .ref q10, .int 0, .ref q11, .ref q12, .ref q13, .ref q14, .int 0, .null])), (q1, .inl (ca 0, 432, .inl (fun _ => 0))), (q2, .inl (ca 2, 2, .inl (fun _ => 0))), (q3, .inl (ca 0, 144, .inl (fun _ => 0))), (q4, .inl (ca 0, 6, .inl (fun _ => 0))), (q5, .inl (ca 0, 160, .inl (fun _ => 0))), (q6, .inl (ca 0, 128, .inl (fun _ => 0))), (q7, .inl (ca 0, 4, .inl (fun _ => 0))), (q8, .inl (ca 0, 4, .inl (fun _ => 0))), (q9, .inl (ca 0, 48, .inl (fun _ => 0))), (q10, .inl (ca 0, 4, .inl (fun _ => 0))), (q11, .inl (ca 0, 16, .inl (fun _ => 0))), (q12, .inl (ca 0, 4, .inl (fun _ => 0))), (q13, .inl (ca 0, 4, .inl (fun _ => 0))), (q14, .inl (ca 0, 160, .inl (fun _ => 0))), (q15, .inl (ca 0, 20, .inl (fun _ => 0)))] rfl ?_
  refine U_putF (ty := t_Mod 36) t_Mod 0 rfl rfl i_Mod t_Mod_ok n_Mod (by decide) fl_Mod_53 rfl rfl rfl (t_Mod_ok 36 (by decide)) rfl rfl (Nat.le_of_ble_eq_true rfl) d_Mod_init_120 ?_
  refine U_eq [(a0, .inr (11, [.ref q1, .ref q2, .int 0, .int 0, .int 0, .int 0, .ref q3, .int 0, .int 0, .int 0, .int 0, .int 0, .ref q4, .int 0, .ref q5, .int 0, .int 0, .int 0, .int 0, .int 0, .int 0, .int 0, .ref q6, .ref q7, .ref q8, .int 0, .long 0, .ref q9, .int 0, .ref q10, .int 0, .ref q11, .ref q12, .ref q13, .ref q14, .int 0, .ref q15])), (q1, .inl (ca 0, 432, .inl (fun _ => 0))), (q2, .inl (ca 2, 2, .inl (fun _ => 0))), (q3, .inl (ca 0, 144, .inl (fun _ => 0))), (q4, .inl (ca 0, 6, .inl (fun _ => 0))), (q5, .inl (ca 0, 160, .inl (fun _ => 0))), (q6, .inl (ca 0, 128, .inl (fun _ => 0))), (q7, .inl (ca 0, 4, .inl (fun _ => 0))), (q8, .inl (ca 0, 4, .inl (fun _ => 0))), (q9, .inl (ca 0, 48, .inl (fun _ => 0))), (q10, .inl (ca 0, 4, .inl (fun _ => 0))), (q11, .inl (ca 0, 16, .inl (fun _ => 0))), (q12, .inl (ca 0, 4, .inl (fun _ => 0))), (q13, .inl (ca 0, 4, .inl (fun _ => 0))), (q14, .inl (ca 0, 160, .inl (fun _ => 0))), (q15, .inl (ca 0, 20, .inl (fun _ => 0)))] rfl ?_
  refine U_iconst 0 d_Mod_init_123 (by decide) ?_
  refine U_istore_n 1 [some (.ref a0), some (.int 0)] d_Mod_init_124 rfl (by decide) rfl rfl ?_
  refine U_iload_n 1 d_Mod_init_125 rfl rfl ?_
  refine U_iconst 4 d_Mod_init_126 (by decide) ?_
  refine U_icmp_ge 144 d_Mod_init_127 (by decide) (fun c => absurd c (by decide)) (fun _ => ?_)
  refine U_aload_n 0 d_Mod_init_130 rfl rfl ?_
  refine U_get (.ref q12) 0 fa_Mod_44 rfl rfl d_Mod_init_131 ?_
  refine U_iload_n 1 d_Mod_init_134 rfl rfl ?_
  refine U_bipush (-4) d_Mod_init_135 (by decide) ?_
  refine U_iast (q0 := 12) rfl (vp_in_iff.mpr (by decide)) d_Mod_init_137 ?_
  refine U_eq [(a0, .inr (11, [.ref q1, .ref q2, .int 0, .int 0, .int 0, .int 0, .ref q3, .int 0, .int 0, .int 0, .int 0, .int 0, .ref q4, .int 0, .ref q5, .int 0, .int 0, .int 0, .int 0, .int 0, .int 0, .int 0, .ref q6, .ref q7, .ref q8, .int 0, .long 0, .ref q9, .int 0, .ref q10, .int 0, .ref q11, .ref q12, .ref q13, .ref q14, .int 0, .ref q15])), (q1, .inl (ca 0, 432, .inl (fun _ => 0))), (q2, .inl (ca 2, 2, .inl (fun _ => 0))), (q3, .inl (ca 0, 144, .inl (fun _ => 0))), (q4, .inl (ca 0, 6, .inl (fun _ => 0))), (q5, .inl (ca 0, 160, .inl (fun _ => 0))), (q6, .inl (ca 0, 128, .inl (fun _ => 0))), (q7, .inl (ca 0, 4, .inl (fun _ => 0))), (q8, .inl (ca 0, 4, .inl (fun _ => 0))), (q9, .inl (ca 0, 48, .inl (fun _ => 0))), (q10, .inl (ca 0, 4, .inl (fun _ => 0))), (q11, .inl (ca 0, 16, .inl (fun _ => 0))), (q12, .inl (ca 0, 4, .inl (upd (fun _ => 0) 0 (-4)))), (q13, .inl (ca 0, 4, .inl (fun _ => 0))), (q14, .inl (ca 0, 160, .inl (fun _ => 0))), (q15, .inl (ca 0, 20, .inl (fun _ => 0)))] rfl ?_
  refine U_iinc (v := 1) 1 [some (.ref a0), some (.int 1)] d_Mod_init_138 rfl (by decide) (by decide) rfl rfl ?_
  refine U_goto 125 d_Mod_init_141 (by decide) ?_
  refine U_iload_n 1 d_Mod_init_125 rfl rfl ?_
  refine U_iconst 4 d_Mod_init_126 (by decide) ?_
  refine U_icmp_ge 144 d_Mod_init_127 (by decide) (fun c => absurd c (by decide)) (fun _ => ?_)
  refine U_aload_n 0 d_Mod_init_130 rfl rfl ?_
  refine U_get (.ref q12) 0 fa_Mod_44 rfl rfl d_Mod_init_131 ?_
  refine U_iload_n 1 d_Mod_init_134 rfl rfl ?_
  refine U_bipush (-4) d_Mod_init_135 (by decide) ?_
  refine U_iast (q0 := 12) rfl (vp_in_iff.mpr (by decide)) d_Mod_init_137 ?_
  refine U_eq [(a0, .inr (11, [.ref q1, .ref q2, .int 0, .int 0, .int 0, .int 0, .ref q3, .int 0, .int 0, .int 0, .int 0, .int 0, .ref q4, .int 0, .ref q5, .int 0, .int 0, .int 0, .int 0, .int 0, .int 0, .int 0, .ref q6, .ref q7, .ref q8, .int 0, .long 0, .ref q9, .int 0, .ref q10, .int 0, .ref q11, .ref q12, .ref q13, .ref q14, .int 0, .ref q15])), (q1, .inl (ca 0, 432, .inl (fun _ => 0))), (q2, .inl (ca 2, 2, .inl (fun _ => 0))), (q3, .inl (ca 0, 144, .inl (fun _ => 0))), (q4, .inl (ca 0, 6, .inl (fun _ => 0))), (q5, .inl (ca 0, 160, .inl (fun _ => 0))), (q6, .inl (ca 0, 128, .inl (fun _ => 0))), (q7, .inl (ca 0, 4, .inl (fun _ => 0))), (q8, .inl (ca 0, 4, .inl (fun _ => 0))), (q9, .inl (ca 0, 48, .inl (fun _ => 0))), (q10, .inl (ca 0, 4, .inl (fun _ => 0))), (q11, .inl (ca 0, 16, .inl (fun _ => 0))), (q12, .inl (ca 0, 4, .inl (upd (upd (fun _ => 0) 0 (-4)) 1 (-4)))), (q13, .inl (ca 0, 4, .inl (fun _ => 0))), (q14, .inl (ca 0, 160, .inl (fun _ => 0))), (q15, .inl (ca 0, 20, .inl (fun _ => 0)))] rfl ?_
  refine U_iinc (v := 2) 1 [some (.ref a0), some (.int 2)] d_Mod_init_138 rfl (by decide) (by decide) rfl rfl ?_
  refine U_goto 125 d_Mod_init_141 (by decide) ?_
  refine U_iload_n 1 d_Mod_init_125 rfl rfl ?_
  refine U_iconst 4 d_Mod_init_126 (by decide) ?_
  refine U_icmp_ge 144 d_Mod_init_127 (by decide) (fun c => absurd c (by decide)) (fun _ => ?_)
  refine U_aload_n 0 d_Mod_init_130 rfl rfl ?_
  refine U_get (.ref q12) 0 fa_Mod_44 rfl rfl d_Mod_init_131 ?_
  refine U_iload_n 1 d_Mod_init_134 rfl rfl ?_
  refine U_bipush (-4) d_Mod_init_135 (by decide) ?_
  refine U_iast (q0 := 12) rfl (vp_in_iff.mpr (by decide)) d_Mod_init_137 ?_
  refine U_eq [(a0, .inr (11, [.ref q1, .ref q2, .int 0, .int 0, .int 0, .int 0, .ref q3, .int 0, .int 0, .int 0, .int 0, .int 0, .ref q4, .int 0, .ref q5, .int 0, .int 0, .int 0, .int 0, .int 0, .int 0, .int 0, .ref q6, .ref q7, .ref q8, .int 0, .long 0, .ref q9, .int 0, .ref q10, .int 0, .ref q11, .ref q12, .ref q13, .ref q14, .int 0, .ref q15])), (q1, .inl (ca 0, 432, .inl (fun _ => 0))), (q2, .inl (ca 2, 2, .inl (fun _ => 0))), (q3, .inl (ca 0, 144, .inl (fun _ => 0))), (q4, .inl (ca 0, 6, .inl (fun _ => 0))), (q5, .inl (ca 0, 160, .inl (fun _ => 0))), (q6, .inl (ca 0, 128, .inl (fun _ => 0))), (q7, .inl (ca 0, 4, .inl (fun _ => 0))), (q8, .inl (ca 0, 4, .inl (fun _ => 0))), (q9, .inl (ca 0, 48, .inl (fun _ => 0))), (q10, .inl (ca 0, 4, .inl (fun _ => 0))), (q11, .inl (ca 0, 16, .inl (fun _ => 0))), (q12, .inl (ca 0, 4, .inl (upd (upd (upd (fun _ => 0) 0 (-4)) 1 (-4)) 2 (-4)))), (q13, .inl (ca 0, 4, .inl (fun _ => 0))), (q14, .inl (ca 0, 160, .inl (fun _ => 0))), (q15, .inl (ca 0, 20, .inl (fun _ => 0)))] rfl ?_
  refine U_iinc (v := 3) 1 [some (.ref a0), some (.int 3)] d_Mod_init_138 rfl (by decide) (by decide) rfl rfl ?_
  refine U_goto 125 d_Mod_init_141 (by decide) ?_
  refine U_iload_n 1 d_Mod_init_125 rfl rfl ?_
  refine U_iconst 4 d_Mod_init_126 (by decide) ?_
  refine U_icmp_ge 144 d_Mod_init_127 (by decide) (fun c => absurd c (by decide)) (fun _ => ?_)
  refine U_aload_n 0 d_Mod_init_130 rfl rfl ?_
  refine U_get (.ref q12) 0 fa_Mod_44 rfl rfl d_Mod_init_131 ?_
  refine U_iload_n 1 d_Mod_init_134 rfl rfl ?_
  refine U_bipush (-4) d_Mod_init_135 (by decide) ?_
  refine U_iast (q0 := 12) rfl (vp_in_iff.mpr (by decide)) d_Mod_init_137 ?_
  refine U_eq [(a0, .inr (11, [.ref q1, .ref q2, .int 0, .int 0, .int 0, .int 0, .ref q3, .int 0, .int 0, .int 0, .int 0, .int 0, .ref q4, .int 0, .ref q5, .int 0, .int 0, .int 0, .int 0, .int 0, .int 0, .int 0, .ref q6, .ref q7, .ref q8, .int 0, .long 0, .ref q9, .int 0, .ref q10, .int 0, .ref q11, .ref q12, .ref q13, .ref q14, .int 0, .ref q15])), (q1, .inl (ca 0, 432, .inl (fun _ => 0))), (q2, .inl (ca 2, 2, .inl (fun _ => 0))), (q3, .inl (ca 0, 144, .inl (fun _ => 0))), (q4, .inl (ca 0, 6, .inl (fun _ => 0))), (q5, .inl (ca 0, 160, .inl (fun _ => 0))), (q6, .inl (ca 0, 128, .inl (fun _ => 0))), (q7, .inl (ca 0, 4, .inl (fun _ => 0))), (q8, .inl (ca 0, 4, .inl (fun _ => 0))), (q9, .inl (ca 0, 48, .inl (fun _ => 0))), (q10, .inl (ca 0, 4, .inl (fun _ => 0))), (q11, .inl (ca 0, 16, .inl (fun _ => 0))), (q12, .inl (ca 0, 4, .inl (upd (upd (upd (upd (fun _ => 0) 0 (-4)) 1 (-4)) 2 (-4)) 3 (-4)))), (q13, .inl (ca 0, 4, .inl (fun _ => 0))), (q14, .inl (ca 0, 160, .inl (fun _ => 0))), (q15, .inl (ca 0, 20, .inl (fun _ => 0)))] rfl ?_
  refine U_iinc (v := 4) 1 [some (.ref a0), some (.int 4)] d_Mod_init_138 rfl (by decide) (by decide) rfl rfl ?_
  refine U_goto 125 d_Mod_init_141 (by decide) ?_
  refine U_iload_n 1 d_Mod_init_125 rfl rfl ?_
  refine U_iconst 4 d_Mod_init_126 (by decide) ?_
  refine U_icmp_ge 144 d_Mod_init_127 (by decide) (fun _ => ?_) (fun c => absurd (by decide) c)
  refine U_row (t := 0) (q0 := 12) (fun _ => -4) rfl (by decide) ?_
  refine U_eq [(a0, .inr (11, [.ref q1, .ref q2, .int 0, .int 0, .int 0, .int 0, .ref q3, .int 0, .int 0, .int 0, .int 0, .int 0, .ref q4, .int 0, .ref q5, .int 0, .int 0, .int 0, .int 0, .int 0, .int 0, .int 0, .ref q6, .ref q7, .ref q8, .int 0, .long 0, .ref q9, .int 0, .ref q10, .int 0, .ref q11, .ref q12, .ref q13, .ref q14, .int 0, .ref q15])), (q1, .inl (ca 0, 432, .inl (fun _ => 0))), (q2, .inl (ca 2, 2, .inl (fun _ => 0))), (q3, .inl (ca 0, 144, .inl (fun _ => 0))), (q4, .inl (ca 0, 6, .inl (fun _ => 0))), (q5, .inl (ca 0, 160, .inl (fun _ => 0))), (q6, .inl (ca 0, 128, .inl (fun _ => 0))), (q7, .inl (ca 0, 4, .inl (fun _ => 0))), (q8, .inl (ca 0, 4, .inl (fun _ => 0))), (q9, .inl (ca 0, 48, .inl (fun _ => 0))), (q10, .inl (ca 0, 4, .inl (fun _ => 0))), (q11, .inl (ca 0, 16, .inl (fun _ => 0))), (q12, .inl (ca 0, 4, .inl (fun _ => -4))), (q13, .inl (ca 0, 4, .inl (fun _ => 0))), (q14, .inl (ca 0, 160, .inl (fun _ => 0))), (q15, .inl (ca 0, 20, .inl (fun _ => 0)))] rfl ?_
  refine U_aload_n 0 d_Mod_init_144 rfl rfl ?_
  refine U_callV (qb := 0) [] [] [0, 1, 2, 3, 4, 5, 6, 7, 8, 9, 10, 11, 12, 13, 14, 15] [] cv_Mod_56 rfl rfl rfl rfl (by decide) (by decide) (by decide) d_Mod_init_145 (Nat.le_of_ble_eq_true rfl) (by decide) (by decide) (by decide) (by decide) (k_Mod_firstDraft D ca a0 q1 q2 q3 q4 q5 q6 q7 q8 q9 q10 q11 q12 q13 q14 q15) (fun w1 hw => ?_)
  subst hw
  refine U_eq [(a0, .inr (11, [.ref q1, .ref q2, .int 0, .int 0, .int 0, .int 0, .ref q3, .int 3, .int 3, .int 1, .int 10, .int 0, .ref q4, .int (-4), .ref q5, .int 0, .int 0, .int 0, .int 0, .int 0, .int 0, .int 0, .ref q6, .ref q7, .ref q8, .int 0, .long 0, .ref q9, .int 0, .ref q10, .int 0, .ref q11, .ref q12, .ref q13, .ref q14, .int 0, .ref q15])), (q1, .inl (ca 0, 432, .inl (fun _ => 0))), (q2, .inl (ca 2, 2, .inl (fun _ => 0))), (q3, .inl (ca 0, 144, .inl dr0)), (q4, .inl (ca 0, 6, .inl (fun _ => 0))), (q5, .inl (ca 0, 160, .inl (fun _ => 0))), (q6, .inl (ca 0, 128, .inl (fun _ => 0))), (q7, .inl (ca 0, 4, .inl (fun _ => 0))), (q8, .inl (ca 0, 4, .inl (fun _ => 0))), (q9, .inl (ca 0, 48, .inl (fun _ => 0))), (q10, .inl (ca 0, 4, .inl (fun _ => 0))), (q11, .inl (ca 0, 16, .inl (fun _ => 0))), (q12, .inl (ca 0, 4, .inl (fun _ => -4))), (q13, .inl (ca 0, 4, .inl (fun _ => 0))), (q14, .inl (ca 0, 160, .inl (fun _ => 0))), (q15, .inl (ca 0, 20, .inl (fun _ => 0)))] rfl ?_
  refine U_aload_n 0 d_Mod_init_148 rfl rfl ?_
  refine U_callV (qb := 0) [] [] [0, 1, 2, 3, 4, 5, 6, 7, 8, 9, 10, 11, 12, 13, 14, 15] [] cv_Mod_59 rfl rfl rfl rfl (by decide) (by decide) (by decide) d_Mod_init_149 (Nat.le_of_ble_eq_true rfl) (by decide) (by decide) (by decide) (by decide) (k_Mod_keepDraft D ca a0 q1 q2 q3 q4 q5 q6 q7 q8 q9 q10 q11 q12 q13 q14 q15) (fun w1 hw => ?_)
  subst hw
  refine U_eq [(a0, .inr (11, [.ref q1, .ref q2, .int 3, .int 3, .int 1, .int 10, .ref q3, .int 3, .int 3, .int 1, .int 10, .int 0, .ref q4, .int (-4), .ref q5, .int 0, .int 0, .int 0, .int 0, .int 0, .int 0, .int 0, .ref q6, .ref q7, .ref q8, .int 0, .long 0, .ref q9, .int 0, .ref q10, .int 0, .ref q11, .ref q12, .ref q13, .ref q14, .int 0, .ref q15])), (q1, .inl (ca 0, 432, .inl (fun i => if i < 144 then dr0 i else 0))), (q2, .inl (ca 2, 2, .inl (fun _ => 0))), (q3, .inl (ca 0, 144, .inl dr0)), (q4, .inl (ca 0, 6, .inl (fun _ => 0))), (q5, .inl (ca 0, 160, .inl (fun _ => 0))), (q6, .inl (ca 0, 128, .inl (fun _ => 0))), (q7, .inl (ca 0, 4, .inl (fun _ => 0))), (q8, .inl (ca 0, 4, .inl (fun _ => 0))), (q9, .inl (ca 0, 48, .inl (fun _ => 0))), (q10, .inl (ca 0, 4, .inl (fun _ => 0))), (q11, .inl (ca 0, 16, .inl (fun _ => 0))), (q12, .inl (ca 0, 4, .inl (fun _ => -4))), (q13, .inl (ca 0, 4, .inl (fun _ => 0))), (q14, .inl (ca 0, 160, .inl (fun _ => 0))), (q15, .inl (ca 0, 20, .inl (fun _ => 0)))] rfl ?_
  exact U_vret d_Mod_init_152 ⟨q1, q2, q3, q4, q5, q6, q7, q8, q9, q10, q11, q12, q13, q14, q15, rfl⟩ rfl rfl
end
section
def R_law : String := "RodOwesLaw"
def lw_P (b : Addr) (xs : List Int32) (args : Array Value) (s : State) : Prop := args = #[.ref b] ∧ s.IntsAt b xs ∧ xs.length ≤ 320 ∧ (Jvm.Cond.and given_1 narrow_1).before args s = true
def lw_Q (_ : Array Value) (s : State) (o : Outcome) (t : State) : Prop := o = .returned (some (.int 1)) ∧ Framed s o t [] 600000 7302250
def lw_Z (below : List Frame) (a : Array Value) (s : State) : State → Prop := fun t => ∃ o, t.status = .running ∧ Ended t below o ∧ lw_Q a s o t
/-- the law's own end, with 1 on the stack, nothing written that was there before, its room as the claim has it -/
theorem lw_ret {p : Program} {l : Launch} {e : Env} {s : State} {m : MethodId} {below : List Frame} {meth : Method} {c : Code} {b : Nat} (hx : p.tables.exec = Jvm.exec) (hb : c.code = code) (hr : meth.sig.returnType = ret) (hlocks : meth.locks = false) {pc : Nat} {H : Heap} {ls : Array Slot} (hdg : decode code pc = .ok (.ireturn, 1)) : W p l e room_1 s m #[Value.ref b] below meth c H [] 600000 7302250 (lw_Z below #[Value.ref b] s) (F0 m pc ls [.int 1]) := by
  intro T hT X
  obtain ⟨fs, hret, hrun, hended, hW, hframe⟩ := X.leave (v := some (.int 1)) (hlocks := hlocks) (fun h => by rw [hr] at h; cases h)
  have hmeth' : T.vm.method? m = some meth := X.method'
  refine ⟨T.setFrames fs, ?_, .returned (some (.int 1)), hrun, hended, rfl, ⟨_, rfl⟩, hW, hframe⟩
  jvm_step X.here [X.here.top, hx, hb, hdg, hmeth', hr, ret, narrow_b1]
  (try refine ⟨rfl, ?_⟩); (try refine ⟨rfl, ?_⟩)
  first | (intro acts; rw [hret _ acts rfl rfl rfl]) | rw [hret _ _ rfl rfl rfl]
  exact Steps.refl _
/-- what holds at the law's entry: the machine, the code, the tables' words (any of lw_tbl by 'hts w (by decide +kernel)'), the script of L ints xs at the cell b, what the Statement gives of the start (any of its parts by flat_of_before) -/
def lw_At (p : Program) (s : State) (m : MethodId) (meth : Method) (c : Code) (b L : Nat) (xs : Nat → Int32) : Prop :=
  p.tables.exec = Jvm.exec ∧ c.code = code ∧ meth.sig.returnType = ret ∧ c.maxLocals = 4 ∧ s.vm.findClass R_law = some m.cls ∧ (∀ w ∈ lw_tbl, w.before #[Value.ref b] s = true) ∧ va_X b L xs s s.heap ∧ b < s.heap.size ∧ meth.locks = false ∧ (Jvm.Cond.and given_1 narrow_1).before #[Value.ref b] s = true

def G0 (b0 Ls : Nat) (xs : Nat → Int32) (s : State) (args : Array Value) (X : Xc) (A : Nat → Prop) : Prop := args = #[Value.ref b0] ∧ X.2.1 200 = b0 ∧ b0 < s.heap.size ∧ ¬ A b0 ∧ va_X b0 Ls xs s s.heap ∧ ∀ q : Nat, A q → s.heap.size ≤ q
def ZW (b0 Ls : Nat) (xs : Nat → Int32) (h : Hp) (pc : Nat) (ls : Pl) (st : List Value) : Prop :=
  ∀ (p : Program) (l : Launch) (e : Env) (s : State) (m : MethodId) (args : Array Value) (below : List Frame) (meth : Method) (c : Code) (X : Xc) (A : Nat → Prop) (H : Heap) (locs : List Loc) (lsA : Array Slot),
    Cx R_law code 4 ret p s m args meth c X A → G0 b0 Ls xs s args X A → va_P X.1 classes (wsX X h) H → va_S A s.heap H locs → lh X.2.1 lsA 4 ls →
    W p l e room_1 s m args below meth c H locs 132 2553 (lw_Z below args s) (F0 m pc lsA (st.map (rv X.2.1)))
def LZ (i : Int32) : Pl := [some (.ref 200), some (.ref 85), some (.ref 116), some (.int i)]
section ZR
variable {b0 Ls : Nat} {xs : Nat → Int32} {h : Hp} {pc : Nat} {ls : Pl} {st : List Value}
theorem Z_iconst {n : Int} (v : Int32) (d : decode code pc = .ok (.iconst n, 1)) (hv : Int32.ofInt n = v) (k : ZW b0 Ls xs h (pc + 1) ls (.int v :: st)) : ZW b0 Ls xs h pc ls (st) := fun p l e s m args below meth c X A H locs lsA C G hP hS hl => lv_iconst C.1 C.2.1 d hv (k p l e s m args below meth c X A H locs lsA C G hP hS hl)
theorem Z_bipush {n : Int} (v : Int32) (d : decode code pc = .ok (.bipush n, 2)) (hv : (Int8.ofInt n).toInt32 = v) (k : ZW b0 Ls xs h (pc + 2) ls (.int v :: st)) : ZW b0 Ls xs h pc ls (st) := fun p l e s m args below meth c X A H locs lsA C G hP hS hl => lv_bipush C.1 C.2.1 d hv (k p l e s m args below meth c X A H locs lsA C G hP hS hl)
theorem Z_iload_n {n : Fin 4} (i : Nat) {x : Int32} (d : decode code pc = .ok (.iload_n n, 1)) (hi : (n : Nat) = i) (hx : ls[i]? = some (some (.int x))) (k : ZW b0 Ls xs h (pc + 1) ls (.int x :: st)) : ZW b0 Ls xs h pc ls (st) := fun p l e s m args below meth c X A H locs lsA C G hP hS hl => lv_iload_n C.1 C.2.1 d hi (hl.2.2 i _ hx) (k p l e s m args below meth c X A H locs lsA C G hP hS hl)
theorem Z_aload_n {n : Fin 4} (i : Nat) {x : Nat} (d : decode code pc = .ok (.aload_n n, 1)) (hi : (n : Nat) = i) (hx : ls[i]? = some (some (.ref x))) (k : ZW b0 Ls xs h (pc + 1) ls (.ref x :: st)) : ZW b0 Ls xs h pc ls (st) := fun p l e s m args below meth c X A H locs lsA C G hP hS hl => lv_aload_n C.1 C.2.1 d hi (hl.2.2 i _ hx) (k p l e s m args below meth c X A H locs lsA C G hP hS hl)
theorem Z_iinc {n : Int} (i : Nat) (ls1 : Pl) {x v : Int32} (d : decode code pc = .ok (.iinc i n, 3)) (hx : ls[i]? = some (some (.int x))) (hv : x + Int32.ofInt n = v) (hn : i < 4) (ho : okS ls i = true) (h1 : ls.set i (some (.int v)) = ls1) (k : ZW b0 Ls xs h (pc + 3) ls1 st) : ZW b0 Ls xs h pc ls st := fun p l e s m args below meth c X A H locs lsA C G hP hS hl => by
  have hm : (i, Value.int x) ∈ asc X.2.1 ls := asc_in (ad := X.2.1) hx
  obtain ⟨q, hq⟩ := List.getElem?_of_mem hm
  exact lv_iinc C.1 C.2.1 d (asc_has hl) hq hv hn rfl (fun lsB hB => k p l e s m args below meth c X A H locs lsB C G hP hS (lh_set1 rfl ho h1 hB))
theorem Z_isub {x y : Int32} {A B : Int} (ha : x.toInt = A) (hb : y.toInt = B) (hr : -2147483648 ≤ A - B ∧ A - B ≤ 2147483647) (d : decode code pc = .ok (.isub, 1)) (k : ∀ z : Int32, z = x - y → z.toInt = A - B → ZW b0 Ls xs h (pc + 1) ls (.int z :: st)) : ZW b0 Ls xs h pc ls (.int y :: .int x :: st) := fun p l e s m args below meth c X A9 H locs lsA C G hP hS hl => lv_isub C.1 C.2.1 d (k _ rfl (ti_sub ha hb hr) p l e s m args below meth c X A9 H locs lsA C G hP hS hl)
theorem Z_iadd {x y : Int32} {A B : Int} (ha : x.toInt = A) (hb : y.toInt = B) (hr : -2147483648 ≤ A + B ∧ A + B ≤ 2147483647) (d : decode code pc = .ok (.iadd, 1)) (k : ∀ z : Int32, z = x + y → z.toInt = A + B → ZW b0 Ls xs h (pc + 1) ls (.int z :: st)) : ZW b0 Ls xs h pc ls (.int y :: .int x :: st) := fun p l e s m args below meth c X A9 H locs lsA C G hP hS hl => lv_iadd C.1 C.2.1 d (k _ rfl (ti_add ha hb hr) p l e s m args below meth c X A9 H locs lsA C G hP hS hl)
theorem Z_iand {x y : Int32} (d : decode code pc = .ok (.iand, 1)) (k : ∀ z : Int32, z = x &&& y → ZW b0 Ls xs h (pc + 1) ls (.int z :: st)) : ZW b0 Ls xs h pc ls (.int y :: .int x :: st) := fun p l e s m args below meth c X A H locs lsA C G hP hS hl => lv_iand C.1 C.2.1 d (k _ rfl p l e s m args below meth c X A H locs lsA C G hP hS hl)
theorem Z_pop {v : Value} (d : decode code pc = .ok (.pop, 1)) (hv : v.category = 1) (k : ZW b0 Ls xs h (pc + 1) ls (st)) : ZW b0 Ls xs h pc ls (v :: st) := fun p l e s m args below meth c X A H locs lsA C G hP hS hl => lv_pop C.1 C.2.1 d ((rv_cat _ _).trans hv) (k p l e s m args below meth c X A H locs lsA C G hP hS hl)
theorem Z_pop2L {v : Value} (d : decode code pc = .ok (.pop2, 1)) (hv : v.category = 2) (k : ZW b0 Ls xs h (pc + 1) ls (st)) : ZW b0 Ls xs h pc ls (v :: st) := fun p l e s m args below meth c X A H locs lsA C G hP hS hl => lv_pop2_2 C.1 C.2.1 d ((rv_cat _ _).trans hv) (k p l e s m args below meth c X A H locs lsA C G hP hS hl)
theorem Z_icmp_eq {x y : Int32} {A B : Int} {off : Int} (tgt : Nat) (ha : x.toInt = A) (hb : y.toInt = B) (d : decode code pc = .ok (.if_icmp .eq off, 3)) (ht : (pc : Int) + off = (tgt : Int)) (kt : A = B → ZW b0 Ls xs h tgt ls st) (kf : ¬ A = B → ZW b0 Ls xs h (pc + 3) ls st) : ZW b0 Ls xs h pc ls (.int y :: .int x :: st) := fun p l e s m args below meth c X A9 H locs lsA C G hP hS hl => lv_icmp_eq C.1 C.2.1 d ht (fun q => kt ((ti_eq ha hb).mp q) p l e s m args below meth c X A9 H locs lsA C G hP hS hl) (fun q => kf ((fun z => q ((ti_eq ha hb).mpr z))) p l e s m args below meth c X A9 H locs lsA C G hP hS hl)
theorem Z_if_eq {x : Int32} {A : Int} {off : Int} (tgt : Nat) (ha : x.toInt = A) (d : decode code pc = .ok (.ifCond .eq off, 3)) (ht : (pc : Int) + off = (tgt : Int)) (kt : A = 0 → ZW b0 Ls xs h tgt ls st) (kf : ¬ A = 0 → ZW b0 Ls xs h (pc + 3) ls st) : ZW b0 Ls xs h pc ls (.int x :: st) := fun p l e s m args below meth c X A9 H locs lsA C G hP hS hl => lv_if_eq C.1 C.2.1 d ht (fun q => kt ((ti_eq ha ti_0).mp q) p l e s m args below meth c X A9 H locs lsA C G hP hS hl) (fun q => kf ((fun z => q ((ti_eq ha ti_0).mpr z))) p l e s m args below meth c X A9 H locs lsA C G hP hS hl)
theorem Z_icmp_gt {x y : Int32} {A B : Int} {off : Int} (tgt : Nat) (ha : x.toInt = A) (hb : y.toInt = B) (d : decode code pc = .ok (.if_icmp .gt off, 3)) (ht : (pc : Int) + off = (tgt : Int)) (kt : B < A → ZW b0 Ls xs h tgt ls st) (kf : A ≤ B → ZW b0 Ls xs h (pc + 3) ls st) : ZW b0 Ls xs h pc ls (.int y :: .int x :: st) := fun p l e s m args below meth c X A9 H locs lsA C G hP hS hl => lv_icmp_gt C.1 C.2.1 d ht (fun q => kt ((ti_lt hb ha).mp q) p l e s m args below meth c X A9 H locs lsA C G hP hS hl) (fun q => kf (Int.not_lt.mp (fun z => q ((ti_lt hb ha).mpr z))) p l e s m args below meth c X A9 H locs lsA C G hP hS hl)
theorem Z_goto {off : Int} (tgt : Nat) (d : decode code pc = .ok (.goto off, 3)) (ht : (pc : Int) + off = (tgt : Int)) (k : ZW b0 Ls xs h tgt ls st) : ZW b0 Ls xs h pc ls st := fun p l e s m args below meth c X A H locs lsA C G hP hS hl => lv_goto C.1 C.2.1 d ht (k p l e s m args below meth c X A H locs lsA C G hP hS hl)
theorem Z_tabOut {dflt lo hi : Int} {offs : Array Int} {len : Nat} {x : Int32} {A : Int} (tgt : Nat) (ha : x.toInt = A) (d : decode code pc = .ok (.tableswitch dflt lo hi offs, len)) (hr : A < lo ∨ hi < A) (ht : (pc : Int) + dflt = (tgt : Int)) (k : ZW b0 Ls xs h tgt ls st) : ZW b0 Ls xs h pc ls (.int x :: st) := fun p l e s m args below meth c X A9 H locs lsA C G hP hS hl => lv_tableOut C.1 C.2.1 d (by rw [ha]; exact hr) ht (k p l e s m args below meth c X A9 H locs lsA C G hP hS hl)
theorem Z_tabIn {dflt lo hi : Int} {offs : Array Int} {len : Nat} {x : Int32} {A : Int} {off : Int} (tgt : Nat) (ha : x.toInt = A) (d : decode code pc = .ok (.tableswitch dflt lo hi offs, len)) (h1 : lo ≤ A) (h2 : A ≤ hi) (ho : offs[(A - lo).toNat]? = some off) (ht : (pc : Int) + off = (tgt : Int)) (k : ZW b0 Ls xs h tgt ls st) : ZW b0 Ls xs h pc ls (.int x :: st) := fun p l e s m args below meth c X A9 H locs lsA C G hP hS hl => lv_tableIn C.1 C.2.1 d (by rw [ha]; omega) (by rw [ha]; omega) (by rw [ha]; exact ho) ht (k p l e s m args below meth c X A9 H locs lsA C G hP hS hl)
theorem Z_sld {i : Int32} {I : Int} (ha : i.toInt = I) (hin : 0 ≤ I ∧ I < Ls) (d : decode code pc = .ok (.iaload, 1)) (k : ZW b0 Ls xs h (pc + 1) ls (.int (xs I.toNat) :: st)) : ZW b0 Ls xs h pc ls (.int i :: .ref 200 :: st) := fun p l e s m args below meth c X A H locs lsA C G hP hS hl => by
  have hb : rv X.2.1 (.ref 200) = .ref b0 := by show Value.ref (X.2.1 200) = _; rw [G.2.1]
  have hk := k p l e s m args below meth c X A H locs lsA C G hP hS hl
  show W p l e room_1 s m args below meth c H locs 132 2553 (lw_Z below args s) (F0 m pc lsA (.int i :: rv X.2.1 (.ref 200) :: st.map (rv X.2.1)))
  rw [hb]
  refine va_sld C.1 C.2.1 G.2.2.2.2.1 G.2.2.1 G.2.2.2.1 hS (vp_in_of_ti ha hin) d ?_
  rw [ti_cl, ha]
  exact hk
theorem Z_slen {v : Int32} (hv : Int32.ofNat Ls = v) (d : decode code pc = .ok (.arraylength, 1)) (k : ZW b0 Ls xs h (pc + 1) ls (.int v :: st)) : ZW b0 Ls xs h pc ls (.ref 200 :: st) := fun p l e s m args below meth c X A H locs lsA C G hP hS hl => by
  have hb : rv X.2.1 (.ref 200) = .ref b0 := by show Value.ref (X.2.1 200) = _; rw [G.2.1]
  have hk := k p l e s m args below meth c X A H locs lsA C G hP hS hl
  show W p l e room_1 s m args below meth c H locs 132 2553 (lw_Z below args s) (F0 m pc lsA (rv X.2.1 (.ref 200) :: st.map (rv X.2.1)))
  rw [hb]
  refine va_slen C.1 C.2.1 G.2.2.2.2.1 G.2.2.1 G.2.2.2.1 hS d ?_
  rw [hv]
  exact hk
theorem Z_ret (d : decode code pc = .ok (.ireturn, 1)) : ZW b0 Ls xs h pc ls [.int 1] := fun p l e s m args below meth c X A H locs lsA C G hP hS hl => by
  obtain ⟨rfl, -, -, -, -, gA⟩ := G
  refine va_forget (fun q hq => gA _ (hS.2.2 q hq)) ?_
  exact W.widen (by decide) (by decide) (lw_ret C.1 C.2.1 C.2.2.2.2.2.2.1 C.2.2.2.2.2.1 d)
/-- one number of the script, at i + j -/
theorem Z_arg {i : Int32} {I : Nat} (j : Nat) (hj : j ≤ 4) (hi : i.toInt = I) (hL : I + 5 ≤ Ls) (hL2 : Ls ≤ 320) (d0 : decode code pc = .ok (.aload_n 0, 1)) (d1 : decode code (pc + 1) = .ok (.iload_n 3, 1)) (d2 : decode code (pc + 1 + 1) = .ok (.iconst j, 1)) (d3 : decode code (pc + 1 + 1 + 1) = .ok (.iadd, 1)) (d4 : decode code (pc + 1 + 1 + 1 + 1) = .ok (.iaload, 1)) (k : ZW b0 Ls xs h (pc + 1 + 1 + 1 + 1 + 1) (LZ i) (.int (xs (I + j)) :: st)) : ZW b0 Ls xs h pc (LZ i) st := by
  refine Z_aload_n 0 d0 rfl rfl ?_
  refine Z_iload_n 3 d1 rfl rfl ?_
  refine Z_iconst (Int32.ofInt j) d2 rfl ?_
  have hj' : (Int32.ofInt j).toInt = j := Int32.toInt_ofInt_of_le (by (first | decide +kernel | omega)) (by (first | decide +kernel | omega))
  refine Z_iadd hi hj' (by (first | decide +kernel | omega)) d3 (fun z _ hz => ?_)
  refine Z_sld hz (by (first | decide +kernel | omega)) d4 ?_
  rw [show ((I : Int) + (j : Int)).toNat = I + j by (first | decide +kernel | omega)]
  exact k
/-- 'script[k] != 0' as an argument -/
theorem Z_bool {x : Int32} (d0 : decode code pc = .ok (.ifCond .eq 7, 3)) (d1 : decode code (pc + 3) = .ok (.iconst 1, 1)) (d2 : decode code (pc + 3 + 1) = .ok (.goto 4, 3)) (d3 : decode code (pc + 7) = .ok (.iconst 0, 1)) (k : ∀ r : Int32, r = (if x = 0 then 0 else 1) → ZW b0 Ls xs h (pc + 7 + 1) ls (.int r :: st)) : ZW b0 Ls xs h pc ls (.int x :: st) := by
  refine Z_if_eq (pc + 7) rfl d0 (by (first | decide +kernel | omega)) (fun hx => ?_) (fun hx => ?_)
  · refine Z_iconst 0 d3 (by decide) (k 0 ?_)
    rw [if_pos ((ti_eq (A := x.toInt) rfl ti_0).mpr hx)]
  · refine Z_iconst 1 d1 (by decide) ?_
    refine Z_goto (pc + 7 + 1) d2 (by (first | decide +kernel | omega)) (k 1 ?_)
    rw [if_neg (fun q => hx (by rw [q]; rfl))]
end ZR
section ZC
variable {b0 Ls : Nat} {xs : Nat → Int32} {h : Hp} {pc : Nat} {ls : Pl} {st : List Value}
variable {p : Program} {l : Launch} {e : Env} {s : State} {m : MethodId} {args : Array Value} {below : List Frame} {meth : Method} {c : Code} {X : Xc} {A : Nat → Prop} {H : Heap} {locs : List Loc} {lsA : Array Slot}
theorem zz_after {st0 rest : List Value} {a : Array Value} {post' : Option Value → Hp → Prop} (hr : va_Run p l e room_1 s m args below meth c H locs 132 2553 0 0 (F0 m pc lsA st0) (rest.map (rv X.2.1)) (QcOf X (vv_A X H.size) post' a) (vv_A X H.size)) (C : Cx R_law code 4 ret p s m args meth c X A) (G : G0 b0 Ls xs s args X A) (hS : va_S A s.heap H locs) (hl : lh X.2.1 lsA 4 ls)
    (kk : ∀ (r : Option Value) (h' : Hp), post' r h' → ZW b0 Ls xs h' (pc + 3) ls (r.toList ++ rest)) : W p l e room_1 s m args below meth c H locs 132 2553 (lw_Z below args s) (F0 m pc lsA st0) := by
  intro T hT Xs
  obtain ⟨v, st₀, t, T', L', h0, X', hL, e1, e2, ⟨⟨r, h', hv, hp, hb⟩, hz, hk⟩, stp⟩ := hr T hT Xs
  have hv' : v = r.map (rv X.2.1) := by injection hv
  subst hv'
  rw [h0] at hz hk
  have hAA := vv_AA C.2.2.2.2.2.2.2.2.1 (fun q (hq : H.size ≤ q) => C.2.2.2.2.2.2.2.2.2.1 q (Nat.le_trans hS.1 hq))
  have hS' : va_S A s.heap T'.heap (locs ++ L') := ⟨Nat.le_trans hS.1 (by rw [e1]; exact hz), fun q h1 h2 => by rw [e1, hk q (Nat.lt_of_lt_of_le h1 hS.1) (fun z => h2 (hAA q z))]; exact hS.2.1 q h1 h2, fun q hq => by
      rcases List.mem_append.mp hq with h | h
      · exact hS.2.2 q h
      · exact hAA _ (hL q h)⟩
  obtain ⟨t2, a1, b1⟩ := kk r h' hp p l e s m args below meth c X A T'.heap (locs ++ L') lsA C G (by rw [e1]; exact hb) hS' hl T' rfl X'
  refine ⟨t2, stp t2 ?_, b1⟩
  have hst : ((r.toList ++ rest).map (rv X.2.1)) = (r.map (rv X.2.1)).toList ++ rest.map (rv X.2.1) := by cases r <;> simp
  rw [hst] at a1
  exact a1
end ZC
section ZD
variable {b0 Ls : Nat} {xs : Nat → Int32} {h : Hp} {pc : Nat} {ls : Pl} {st : List Value}
theorem Z_call {y : MethodName} {cc' : ByteArray} {nL' : Nat} {ret' : Option FieldType} {F' L' idx b ci : Nat} {ss : List Sl} {post' : Option Value → Hp → Prop} (As rest : List Value) (cv : CV R_law idx y cc' nL' ret' As.length) (hs : vv_sk[b]? = some (.inr (ci, ss))) (hcl : (classes[ci]?).map (fun q => q.1) = some y.cls) (d : decode code pc = .ok (.invokevirtual idx, 3)) (hst : st = As.reverse ++ .ref b :: rest) (hrm : (rest.map fun v => v.category).sum ≤ 8) (hF : F' + 1 ≤ 13) (hL : 8 + (nL' + 11) + L' ≤ 470)
    (ct : Ct y cc' nL' ret' F' L' (.ref b :: As) h post') (kk : ∀ (r : Option Value) (h' : Hp), post' r h' → ZW b0 Ls xs h' (pc + 3) ls (r.toList ++ rest)) : ZW b0 Ls xs h pc ls st := fun p l e s m args below meth c X A H locs lsA C G hP hS hl => by
  obtain ⟨⟨q1, q2, q3⟩, q4, q5, q6⟩ := cv
  obtain ⟨r, hr, hrc⟩ : ∃ r, classes[ci]? = some r ∧ r.1 = y.cls := by
    cases hz : classes[ci]? with
    | none => rw [hz] at hcl; cases hcl
    | some r => rw [hz] at hcl; exact ⟨r, rfl, Option.some.inj hcl⟩
  have hts := C.2.2.2.2.1
  obtain ⟨b1, b2⟩ := vv_pre C hP hS (.ref b :: As)
  have hrecv := va_recv C.2.2.2.2.2.2.2.1 hP hr (wsX_get hs)
  rw [hrc] at hrecv
  refine zz_after (rest := rest) (va_runV (Ts := vv_G) (As := As.map (rv X.2.1)) (b := X.2.1 b) (C := y.cls) (n := As.length) ⟨C.1, C.2.1, C.2.2.1, C.2.2.2.1, hts⟩ (ct l X H.size) ⟨callB_of As.length hts (vv_good q1) rfl rfl rfl (hts _ q3) (hts _ q6) q2 ⟨hF, hL⟩, hts _ q4, hts _ q5⟩ ⟨b1, hrecv, b2⟩ rfl (List.length_map _) hl.1 ?_ (lv_room (vv_room _ hrm)) d ⟨by decide, by decide⟩) C G hS hl kk
  rw [hst]
  simp [rv]
end ZD
end
section
/-- a tape at a place of the heap: its bytes are b -/
def TP (h : Hp) (k : Nat) (s : Int) (b : Int → Int) : Prop := ∀ j : Int, 0 ≤ j → (j < s ∧ (h.1 k j.toNat).toInt = b j ∧ 0 ≤ b j ∧ b j ≤ 127 ∨ s ≤ j ∧ b j = -1)
theorem TP_fr {S : List (Nat × Option Nat)} {h h' : Hp} {k : Nat} {s : Int} {b : Int → Int} (f : fr S h h') (hk : ∀ i : Nat, inS S k i = false) (t : TP h k s b) : TP h' k s b := fun j hj => by
  have := t j hj
  rw [f.1 k j.toNat (hk _)]
  exact this
theorem TP_rd {h : Hp} {k : Nat} {s : Int} {b : Int → Int} (t : TP h k s b) {j : Int} (hj : 0 ≤ j ∧ j < s) {y : Int32} {Y : Int} (p : y.toInt = Y) (e : y = h.1 k j.toNat) : Y = b j := by
  rcases t j hj.1 with q | q
  · rw [← p, e]; exact q.2.1
  · omega
theorem TP_b {h : Hp} {k : Nat} {s : Int} {b : Int → Int} (t : TP h k s b) (j : Int) (hj : 0 ≤ j) : j < s ∧ 0 ≤ b j ∧ b j ≤ 127 ∨ s ≤ j ∧ b j = -1 := by
  rcases t j hj with q | q
  · exact Or.inl ⟨q.1, q.2.2⟩
  · exact Or.inr q
def blB (x : Int) : Bool := decide (x = 32)
def leB (x : Int) : Bool := decide (97 ≤ x ∧ x ≤ 122)
def fiB (x : Int) : Bool := decide (48 ≤ x ∧ x ≤ 57)
theorem blB_y {x : Int} (h : x = 32) : blB x = true := decide_eq_true h
theorem blB_n {x : Int} (h : x ≠ 32) : blB x = false := decide_eq_false h
theorem leB_y {x : Int} (h : 97 ≤ x ∧ x ≤ 122) : leB x = true := decide_eq_true h
theorem leB_n {x : Int} (h : ¬ (97 ≤ x ∧ x ≤ 122)) : leB x = false := decide_eq_false h
theorem fiB_y {x : Int} (h : 48 ≤ x ∧ x ≤ 57) : fiB x = true := decide_eq_true h
theorem fiB_n {x : Int} (h : ¬ (48 ≤ x ∧ x ≤ 57)) : fiB x = false := decide_eq_false h
/-- the first place from p on whose byte is not so -/
def rnF (P : Int → Bool) (b : Int → Int) : Nat → Int → Int
  | 0, p => p
  | k + 1, p => if P (b p) = true then rnF P b k (p + 1) else p
def rn (P : Int → Bool) (b : Int → Int) (p : Int) : Int := rnF P b (161 - p).toNat p
theorem rn_stop {P : Int → Bool} {b : Int → Int} {p : Int} (h : P (b p) = false) : rn P b p = p := by
  unfold rn
  generalize (161 - p).toNat = k
  cases k with
  | zero => rfl
  | succ k => show (if P (b p) = true then _ else p) = p; rw [h]; rfl
theorem rn_step {P : Int → Bool} {b : Int → Int} {p : Int} (h : P (b p) = true) (hp : p ≤ 160) : rn P b p = rn P b (p + 1) := by
  unfold rn
  have e : (161 - p).toNat = (161 - (p + 1)).toNat + 1 := by (first | decide +kernel | omega)
  rw [e]
  show (if P (b p) = true then _ else p) = _
  rw [if_pos h]
/-- the TOKEN behind p: where it begins, its kind, where it ends, its number -/
def x_fr (b : Int → Int) (p : Int) : Int := rn blB b p
def x_en (b : Int → Int) (p : Int) : Int := if leB (b (x_fr b p)) = true then rn leB b (x_fr b p) else if fiB (b (x_fr b p)) = true then rn fiB b (x_fr b p) else if b (x_fr b p) = 59 then x_fr b p + 1 else x_fr b p
def x_kd (b : Int → Int) (p : Int) : Int := if b (x_fr b p) < 0 then 0 else if leB (b (x_fr b p)) = true then 1 else if fiB (b (x_fr b p)) = true then (if x_en b p - x_fr b p ≤ 2 then 2 else 4) else if b (x_fr b p) = 59 then 3 else 4
def x_vl (b : Int → Int) (p : Int) : Int := if x_en b p - x_fr b p = 1 then b (x_fr b p) - 48 else 10 * (b (x_fr b p) - 48) + (b (x_fr b p + 1) - 48)
theorem tok_0 {b : Int → Int} {p f : Int} (hf : f = x_fr b p) (h : b f < 0) : x_kd b p = 0 ∧ x_en b p = f := by
  subst hf
  unfold x_kd x_en
  rw [if_pos h, leB_n (by (first | decide +kernel | omega)), fiB_n (by (first | decide +kernel | omega)), if_neg (by decide), if_neg (by decide), if_neg (by (first | decide +kernel | omega))]
  exact ⟨rfl, rfl⟩
theorem tok_1 {b : Int → Int} {p f u : Int} (hf : f = x_fr b p) (h : 97 ≤ b f ∧ b f ≤ 122) (hu : u = rn leB b f) : x_kd b p = 1 ∧ x_en b p = u := by
  subst hf
  unfold x_kd x_en
  rw [if_neg (by (first | decide +kernel | omega)), leB_y h, if_pos rfl, if_pos rfl, hu]
  exact ⟨rfl, rfl⟩
theorem tok_2 {b : Int → Int} {p f u : Int} (hf : f = x_fr b p) (h : 48 ≤ b f ∧ b f ≤ 57) (hu : u = rn fiB b f) : x_en b p = u ∧ (u - f ≤ 2 ∧ x_kd b p = 2 ∨ 2 < u - f ∧ x_kd b p = 4) := by
  subst hf
  have e : x_en b p = u := by
    unfold x_en
    rw [leB_n (by (first | decide +kernel | omega)), if_neg (by decide), fiB_y h, if_pos rfl, hu]
  refine ⟨e, ?_⟩
  unfold x_kd
  rw [if_neg (by (first | decide +kernel | omega)), leB_n (by (first | decide +kernel | omega)), if_neg (by decide), fiB_y h, if_pos rfl, e]
  by_cases q : u - x_fr b p ≤ 2
  · rw [if_pos q]; exact Or.inl ⟨q, rfl⟩
  · rw [if_neg q]; exact Or.inr ⟨by (first | decide +kernel | omega), rfl⟩
theorem tok_3 {b : Int → Int} {p f : Int} (hf : f = x_fr b p) (h : b f = 59) : x_kd b p = 3 ∧ x_en b p = f + 1 := by
  subst hf
  have h1 : leB (b (x_fr b p)) = false := leB_n (by (first | decide +kernel | omega))
  have h2 : fiB (b (x_fr b p)) = false := fiB_n (by (first | decide +kernel | omega))
  unfold x_kd x_en
  rw [h1, h2, h]
  exact ⟨rfl, rfl⟩
theorem tok_4 {b : Int → Int} {p f : Int} (hf : f = x_fr b p) (h : 0 ≤ b f ∧ ¬ (97 ≤ b f ∧ b f ≤ 122) ∧ ¬ (48 ≤ b f ∧ b f ≤ 57) ∧ b f ≠ 59) : x_kd b p = 4 := by
  subst hf
  unfold x_kd
  rw [if_neg (by (first | decide +kernel | omega)), leB_n h.2.1, fiB_n h.2.2.1, if_neg (by decide), if_neg (by decide), if_neg h.2.2.2]
theorem tok_v {b : Int → Int} {p f u v : Int} (hf : f = x_fr b p) (hu : u = x_en b p) (h : u - f = 1 ∧ v = b f - 48 ∨ u - f = 2 ∧ v = 10 * (b f - 48) + (b (f + 1) - 48)) : v = x_vl b p := by
  subst hf hu
  unfold x_vl
  rcases h with h | h
  · rw [if_pos h.1]; exact h.2
  · rw [if_neg (by (first | decide +kernel | omega))]; exact h.2
def x_nm0 (b : Int → Int) (f e : Int) : Int := if e - f = 6 ∧ b (f + 0) = 99 ∧ b (f + 1) = 111 ∧ b (f + 2) = 117 ∧ b (f + 3) = 110 ∧ b (f + 4) = 116 ∧ b (f + 5) = 121 then 1 else 0
theorem x_nmy0 {b : Int → Int} {f e : Int} (h : e - f = 6 ∧ b (f + 0) = 99 ∧ b (f + 1) = 111 ∧ b (f + 2) = 117 ∧ b (f + 3) = 110 ∧ b (f + 4) = 116 ∧ b (f + 5) = 121) : x_nm0 b f e = 1 := if_pos h
theorem x_nmn0 {b : Int → Int} {f e : Int} (h : ¬ (e - f = 6 ∧ b (f + 0) = 99 ∧ b (f + 1) = 111 ∧ b (f + 2) = 117 ∧ b (f + 3) = 110 ∧ b (f + 4) = 116 ∧ b (f + 5) = 121)) : x_nm0 b f e = 0 := if_neg h
theorem x_nmb0 (b : Int → Int) (f e : Int) : x_nm0 b f e = 0 ∨ x_nm0 b f e = 1 := by
  unfold x_nm0
  split
  · exact Or.inr rfl
  · exact Or.inl rfl
theorem x_nmc0 {b : Int → Int} {f e : Int} (h : x_nm0 b f e = 1) : e - f = 6 ∧ b (f + 0) = 99 ∧ b (f + 1) = 111 ∧ b (f + 2) = 117 ∧ b (f + 3) = 110 ∧ b (f + 4) = 116 ∧ b (f + 5) = 121 := by
  unfold x_nm0 at h
  split at h
  · next q => exact q
  · omega
def x_nm1 (b : Int → Int) (f e : Int) : Int := if e - f = 3 ∧ b (f + 0) = 119 ∧ b (f + 1) = 101 ∧ b (f + 2) = 116 then 1 else 0
theorem x_nmy1 {b : Int → Int} {f e : Int} (h : e - f = 3 ∧ b (f + 0) = 119 ∧ b (f + 1) = 101 ∧ b (f + 2) = 116) : x_nm1 b f e = 1 := if_pos h
theorem x_nmn1 {b : Int → Int} {f e : Int} (h : ¬ (e - f = 3 ∧ b (f + 0) = 119 ∧ b (f + 1) = 101 ∧ b (f + 2) = 116)) : x_nm1 b f e = 0 := if_neg h
theorem x_nmb1 (b : Int → Int) (f e : Int) : x_nm1 b f e = 0 ∨ x_nm1 b f e = 1 := by
  unfold x_nm1
  split
  · exact Or.inr rfl
  · exact Or.inl rfl
theorem x_nmc1 {b : Int → Int} {f e : Int} (h : x_nm1 b f e = 1) : e - f = 3 ∧ b (f + 0) = 119 ∧ b (f + 1) = 101 ∧ b (f + 2) = 116 := by
  unfold x_nm1 at h
  split at h
  · next q => exact q
  · omega
def x_nm2 (b : Int → Int) (f e : Int) : Int := if e - f = 4 ∧ b (f + 0) = 105 ∧ b (f + 1) = 114 ∧ b (f + 2) = 111 ∧ b (f + 3) = 110 then 1 else 0
theorem x_nmy2 {b : Int → Int} {f e : Int} (h : e - f = 4 ∧ b (f + 0) = 105 ∧ b (f + 1) = 114 ∧ b (f + 2) = 111 ∧ b (f + 3) = 110) : x_nm2 b f e = 1 := if_pos h
theorem x_nmn2 {b : Int → Int} {f e : Int} (h : ¬ (e - f = 4 ∧ b (f + 0) = 105 ∧ b (f + 1) = 114 ∧ b (f + 2) = 111 ∧ b (f + 3) = 110)) : x_nm2 b f e = 0 := if_neg h
theorem x_nmb2 (b : Int → Int) (f e : Int) : x_nm2 b f e = 0 ∨ x_nm2 b f e = 1 := by
  unfold x_nm2
  split
  · exact Or.inr rfl
  · exact Or.inl rfl
theorem x_nmc2 {b : Int → Int} {f e : Int} (h : x_nm2 b f e = 1) : e - f = 4 ∧ b (f + 0) = 105 ∧ b (f + 1) = 114 ∧ b (f + 2) = 111 ∧ b (f + 3) = 110 := by
  unfold x_nm2 at h
  split at h
  · next q => exact q
  · omega
def x_nm3 (b : Int → Int) (f e : Int) : Int := if e - f = 4 ∧ b (f + 0) = 111 ∧ b (f + 1) = 100 ∧ b (f + 2) = 100 ∧ b (f + 3) = 115 then 1 else 0
theorem x_nmy3 {b : Int → Int} {f e : Int} (h : e - f = 4 ∧ b (f + 0) = 111 ∧ b (f + 1) = 100 ∧ b (f + 2) = 100 ∧ b (f + 3) = 115) : x_nm3 b f e = 1 := if_pos h
theorem x_nmn3 {b : Int → Int} {f e : Int} (h : ¬ (e - f = 4 ∧ b (f + 0) = 111 ∧ b (f + 1) = 100 ∧ b (f + 2) = 100 ∧ b (f + 3) = 115)) : x_nm3 b f e = 0 := if_neg h
theorem x_nmb3 (b : Int → Int) (f e : Int) : x_nm3 b f e = 0 ∨ x_nm3 b f e = 1 := by
  unfold x_nm3
  split
  · exact Or.inr rfl
  · exact Or.inl rfl
theorem x_nmc3 {b : Int → Int} {f e : Int} (h : x_nm3 b f e = 1) : e - f = 4 ∧ b (f + 0) = 111 ∧ b (f + 1) = 100 ∧ b (f + 2) = 100 ∧ b (f + 3) = 115 := by
  unfold x_nm3 at h
  split at h
  · next q => exact q
  · omega
def x_nm4 (b : Int → Int) (f e : Int) : Int := if e - f = 5 ∧ b (f + 0) = 99 ∧ b (f + 1) = 108 ∧ b (f + 2) = 97 ∧ b (f + 3) = 105 ∧ b (f + 4) = 109 then 1 else 0
theorem x_nmy4 {b : Int → Int} {f e : Int} (h : e - f = 5 ∧ b (f + 0) = 99 ∧ b (f + 1) = 108 ∧ b (f + 2) = 97 ∧ b (f + 3) = 105 ∧ b (f + 4) = 109) : x_nm4 b f e = 1 := if_pos h
theorem x_nmn4 {b : Int → Int} {f e : Int} (h : ¬ (e - f = 5 ∧ b (f + 0) = 99 ∧ b (f + 1) = 108 ∧ b (f + 2) = 97 ∧ b (f + 3) = 105 ∧ b (f + 4) = 109)) : x_nm4 b f e = 0 := if_neg h
theorem x_nmb4 (b : Int → Int) (f e : Int) : x_nm4 b f e = 0 ∨ x_nm4 b f e = 1 := by
  unfold x_nm4
  split
  · exact Or.inr rfl
  · exact Or.inl rfl
theorem x_nmc4 {b : Int → Int} {f e : Int} (h : x_nm4 b f e = 1) : e - f = 5 ∧ b (f + 0) = 99 ∧ b (f + 1) = 108 ∧ b (f + 2) = 97 ∧ b (f + 3) = 105 ∧ b (f + 4) = 109 := by
  unfold x_nm4 at h
  split at h
  · next q => exact q
  · omega
def x_nm5 (b : Int → Int) (f e : Int) : Int := if e - f = 5 ∧ b (f + 0) = 112 ∧ b (f + 1) = 117 ∧ b (f + 2) = 114 ∧ b (f + 3) = 115 ∧ b (f + 4) = 101 then 1 else 0
theorem x_nmy5 {b : Int → Int} {f e : Int} (h : e - f = 5 ∧ b (f + 0) = 112 ∧ b (f + 1) = 117 ∧ b (f + 2) = 114 ∧ b (f + 3) = 115 ∧ b (f + 4) = 101) : x_nm5 b f e = 1 := if_pos h
theorem x_nmn5 {b : Int → Int} {f e : Int} (h : ¬ (e - f = 5 ∧ b (f + 0) = 112 ∧ b (f + 1) = 117 ∧ b (f + 2) = 114 ∧ b (f + 3) = 115 ∧ b (f + 4) = 101)) : x_nm5 b f e = 0 := if_neg h
theorem x_nmb5 (b : Int → Int) (f e : Int) : x_nm5 b f e = 0 ∨ x_nm5 b f e = 1 := by
  unfold x_nm5
  split
  · exact Or.inr rfl
  · exact Or.inl rfl
theorem x_nmc5 {b : Int → Int} {f e : Int} (h : x_nm5 b f e = 1) : e - f = 5 ∧ b (f + 0) = 112 ∧ b (f + 1) = 117 ∧ b (f + 2) = 114 ∧ b (f + 3) = 115 ∧ b (f + 4) = 101 := by
  unfold x_nm5 at h
  split at h
  · next q => exact q
  · omega
def x_nm6 (b : Int → Int) (f e : Int) : Int := if e - f = 4 ∧ b (f + 0) = 99 ∧ b (f + 1) = 111 ∧ b (f + 2) = 115 ∧ b (f + 3) = 116 then 1 else 0
theorem x_nmy6 {b : Int → Int} {f e : Int} (h : e - f = 4 ∧ b (f + 0) = 99 ∧ b (f + 1) = 111 ∧ b (f + 2) = 115 ∧ b (f + 3) = 116) : x_nm6 b f e = 1 := if_pos h
theorem x_nmn6 {b : Int → Int} {f e : Int} (h : ¬ (e - f = 4 ∧ b (f + 0) = 99 ∧ b (f + 1) = 111 ∧ b (f + 2) = 115 ∧ b (f + 3) = 116)) : x_nm6 b f e = 0 := if_neg h
theorem x_nmb6 (b : Int → Int) (f e : Int) : x_nm6 b f e = 0 ∨ x_nm6 b f e = 1 := by
  unfold x_nm6
  split
  · exact Or.inr rfl
  · exact Or.inl rfl
theorem x_nmc6 {b : Int → Int} {f e : Int} (h : x_nm6 b f e = 1) : e - f = 4 ∧ b (f + 0) = 99 ∧ b (f + 1) = 111 ∧ b (f + 2) = 115 ∧ b (f + 3) = 116 := by
  unfold x_nm6 at h
  split at h
  · next q => exact q
  · omega
def x_nm7 (b : Int → Int) (f e : Int) : Int := if e - f = 5 ∧ b (f + 0) = 112 ∧ b (f + 1) = 114 ∧ b (f + 2) = 105 ∧ b (f + 3) = 99 ∧ b (f + 4) = 101 then 1 else 0
theorem x_nmy7 {b : Int → Int} {f e : Int} (h : e - f = 5 ∧ b (f + 0) = 112 ∧ b (f + 1) = 114 ∧ b (f + 2) = 105 ∧ b (f + 3) = 99 ∧ b (f + 4) = 101) : x_nm7 b f e = 1 := if_pos h
theorem x_nmn7 {b : Int → Int} {f e : Int} (h : ¬ (e - f = 5 ∧ b (f + 0) = 112 ∧ b (f + 1) = 114 ∧ b (f + 2) = 105 ∧ b (f + 3) = 99 ∧ b (f + 4) = 101)) : x_nm7 b f e = 0 := if_neg h
theorem x_nmb7 (b : Int → Int) (f e : Int) : x_nm7 b f e = 0 ∨ x_nm7 b f e = 1 := by
  unfold x_nm7
  split
  · exact Or.inr rfl
  · exact Or.inl rfl
theorem x_nmc7 {b : Int → Int} {f e : Int} (h : x_nm7 b f e = 1) : e - f = 5 ∧ b (f + 0) = 112 ∧ b (f + 1) = 114 ∧ b (f + 2) = 105 ∧ b (f + 3) = 99 ∧ b (f + 4) = 101 := by
  unfold x_nm7 at h
  split at h
  · next q => exact q
  · omega
def x_nm8 (b : Int → Int) (f e : Int) : Int := if e - f = 3 ∧ b (f + 0) = 114 ∧ b (f + 1) = 111 ∧ b (f + 2) = 100 then 1 else 0
theorem x_nmy8 {b : Int → Int} {f e : Int} (h : e - f = 3 ∧ b (f + 0) = 114 ∧ b (f + 1) = 111 ∧ b (f + 2) = 100) : x_nm8 b f e = 1 := if_pos h
theorem x_nmn8 {b : Int → Int} {f e : Int} (h : ¬ (e - f = 3 ∧ b (f + 0) = 114 ∧ b (f + 1) = 111 ∧ b (f + 2) = 100)) : x_nm8 b f e = 0 := if_neg h
theorem x_nmb8 (b : Int → Int) (f e : Int) : x_nm8 b f e = 0 ∨ x_nm8 b f e = 1 := by
  unfold x_nm8
  split
  · exact Or.inr rfl
  · exact Or.inl rfl
theorem x_nmc8 {b : Int → Int} {f e : Int} (h : x_nm8 b f e = 1) : e - f = 3 ∧ b (f + 0) = 114 ∧ b (f + 1) = 111 ∧ b (f + 2) = 100 := by
  unfold x_nm8 at h
  split at h
  · next q => exact q
  · omega
def x_nm9 (b : Int → Int) (f e : Int) : Int := if e - f = 3 ∧ b (f + 0) = 111 ∧ b (f + 1) = 119 ∧ b (f + 2) = 101 then 1 else 0
theorem x_nmy9 {b : Int → Int} {f e : Int} (h : e - f = 3 ∧ b (f + 0) = 111 ∧ b (f + 1) = 119 ∧ b (f + 2) = 101) : x_nm9 b f e = 1 := if_pos h
theorem x_nmn9 {b : Int → Int} {f e : Int} (h : ¬ (e - f = 3 ∧ b (f + 0) = 111 ∧ b (f + 1) = 119 ∧ b (f + 2) = 101)) : x_nm9 b f e = 0 := if_neg h
theorem x_nmb9 (b : Int → Int) (f e : Int) : x_nm9 b f e = 0 ∨ x_nm9 b f e = 1 := by
  unfold x_nm9
  split
  · exact Or.inr rfl
  · exact Or.inl rfl
theorem x_nmc9 {b : Int → Int} {f e : Int} (h : x_nm9 b f e = 1) : e - f = 3 ∧ b (f + 0) = 111 ∧ b (f + 1) = 119 ∧ b (f + 2) = 101 := by
  unfold x_nm9 at h
  split at h
  · next q => exact q
  · omega
def x_nm10 (b : Int → Int) (f e : Int) : Int := if e - f = 5 ∧ b (f + 0) = 119 ∧ b (f + 1) = 97 ∧ b (f + 2) = 116 ∧ b (f + 3) = 101 ∧ b (f + 4) = 114 then 1 else 0
theorem x_nmy10 {b : Int → Int} {f e : Int} (h : e - f = 5 ∧ b (f + 0) = 119 ∧ b (f + 1) = 97 ∧ b (f + 2) = 116 ∧ b (f + 3) = 101 ∧ b (f + 4) = 114) : x_nm10 b f e = 1 := if_pos h
theorem x_nmn10 {b : Int → Int} {f e : Int} (h : ¬ (e - f = 5 ∧ b (f + 0) = 119 ∧ b (f + 1) = 97 ∧ b (f + 2) = 116 ∧ b (f + 3) = 101 ∧ b (f + 4) = 114)) : x_nm10 b f e = 0 := if_neg h
theorem x_nmb10 (b : Int → Int) (f e : Int) : x_nm10 b f e = 0 ∨ x_nm10 b f e = 1 := by
  unfold x_nm10
  split
  · exact Or.inr rfl
  · exact Or.inl rfl
theorem x_nmc10 {b : Int → Int} {f e : Int} (h : x_nm10 b f e = 1) : e - f = 5 ∧ b (f + 0) = 119 ∧ b (f + 1) = 97 ∧ b (f + 2) = 116 ∧ b (f + 3) = 101 ∧ b (f + 4) = 114 := by
  unfold x_nm10 at h
  split at h
  · next q => exact q
  · omega
def x_nm11 (b : Int → Int) (f e : Int) : Int := if e - f = 5 ∧ b (f + 0) = 115 ∧ b (f + 1) = 116 ∧ b (f + 2) = 101 ∧ b (f + 3) = 112 ∧ b (f + 4) = 115 then 1 else 0
theorem x_nmy11 {b : Int → Int} {f e : Int} (h : e - f = 5 ∧ b (f + 0) = 115 ∧ b (f + 1) = 116 ∧ b (f + 2) = 101 ∧ b (f + 3) = 112 ∧ b (f + 4) = 115) : x_nm11 b f e = 1 := if_pos h
theorem x_nmn11 {b : Int → Int} {f e : Int} (h : ¬ (e - f = 5 ∧ b (f + 0) = 115 ∧ b (f + 1) = 116 ∧ b (f + 2) = 101 ∧ b (f + 3) = 112 ∧ b (f + 4) = 115)) : x_nm11 b f e = 0 := if_neg h
theorem x_nmb11 (b : Int → Int) (f e : Int) : x_nm11 b f e = 0 ∨ x_nm11 b f e = 1 := by
  unfold x_nm11
  split
  · exact Or.inr rfl
  · exact Or.inl rfl
theorem x_nmc11 {b : Int → Int} {f e : Int} (h : x_nm11 b f e = 1) : e - f = 5 ∧ b (f + 0) = 115 ∧ b (f + 1) = 116 ∧ b (f + 2) = 101 ∧ b (f + 3) = 112 ∧ b (f + 4) = 115 := by
  unfold x_nm11 at h
  split at h
  · next q => exact q
  · omega
def x_nm12 (b : Int → Int) (f e : Int) : Int := if e - f = 6 ∧ b (f + 0) = 119 ∧ b (f + 1) = 105 ∧ b (f + 2) = 115 ∧ b (f + 3) = 104 ∧ b (f + 4) = 101 ∧ b (f + 5) = 115 then 1 else 0
theorem x_nmy12 {b : Int → Int} {f e : Int} (h : e - f = 6 ∧ b (f + 0) = 119 ∧ b (f + 1) = 105 ∧ b (f + 2) = 115 ∧ b (f + 3) = 104 ∧ b (f + 4) = 101 ∧ b (f + 5) = 115) : x_nm12 b f e = 1 := if_pos h
theorem x_nmn12 {b : Int → Int} {f e : Int} (h : ¬ (e - f = 6 ∧ b (f + 0) = 119 ∧ b (f + 1) = 105 ∧ b (f + 2) = 115 ∧ b (f + 3) = 104 ∧ b (f + 4) = 101 ∧ b (f + 5) = 115)) : x_nm12 b f e = 0 := if_neg h
theorem x_nmb12 (b : Int → Int) (f e : Int) : x_nm12 b f e = 0 ∨ x_nm12 b f e = 1 := by
  unfold x_nm12
  split
  · exact Or.inr rfl
  · exact Or.inl rfl
theorem x_nmc12 {b : Int → Int} {f e : Int} (h : x_nm12 b f e = 1) : e - f = 6 ∧ b (f + 0) = 119 ∧ b (f + 1) = 105 ∧ b (f + 2) = 115 ∧ b (f + 3) = 104 ∧ b (f + 4) = 101 ∧ b (f + 5) = 115 := by
  unfold x_nm12 at h
  split at h
  · next q => exact q
  · omega
def x_nm13 (b : Int → Int) (f e : Int) : Int := if e - f = 4 ∧ b (f + 0) = 98 ∧ b (f + 1) = 111 ∧ b (f + 2) = 116 ∧ b (f + 3) = 104 then 1 else 0
theorem x_nmy13 {b : Int → Int} {f e : Int} (h : e - f = 4 ∧ b (f + 0) = 98 ∧ b (f + 1) = 111 ∧ b (f + 2) = 116 ∧ b (f + 3) = 104) : x_nm13 b f e = 1 := if_pos h
theorem x_nmn13 {b : Int → Int} {f e : Int} (h : ¬ (e - f = 4 ∧ b (f + 0) = 98 ∧ b (f + 1) = 111 ∧ b (f + 2) = 116 ∧ b (f + 3) = 104)) : x_nm13 b f e = 0 := if_neg h
theorem x_nmb13 (b : Int → Int) (f e : Int) : x_nm13 b f e = 0 ∨ x_nm13 b f e = 1 := by
  unfold x_nm13
  split
  · exact Or.inr rfl
  · exact Or.inl rfl
theorem x_nmc13 {b : Int → Int} {f e : Int} (h : x_nm13 b f e = 1) : e - f = 4 ∧ b (f + 0) = 98 ∧ b (f + 1) = 111 ∧ b (f + 2) = 116 ∧ b (f + 3) = 104 := by
  unfold x_nm13 at h
  split at h
  · next q => exact q
  · omega
def x_is (b : Int → Int) (f e n a c d : Int) : Int := if e - f = n ∧ b (f + 0) = a ∧ b (f + 1) = c ∧ b (f + 2) = d then 1 else 0
def x_ens (b : Int → Int) (f a c d : Int) : Int := if b (f + 3) = a ∧ (c = 0 ∨ b (f + 4) = c) ∧ (d = 0 ∨ b (f + 5) = d) then 1 else 0
theorem x_is1 {b : Int → Int} {f e n a c d : Int} (h : e - f = n ∧ b (f + 0) = a ∧ b (f + 1) = c ∧ b (f + 2) = d) : x_is b f e n a c d = 1 := if_pos h
theorem x_is0 {b : Int → Int} {f e n a c d : Int} (h : ¬ (e - f = n ∧ b (f + 0) = a ∧ b (f + 1) = c ∧ b (f + 2) = d)) : x_is b f e n a c d = 0 := if_neg h
theorem x_ens1 {b : Int → Int} {f a c d : Int} (h : b (f + 3) = a ∧ (c = 0 ∨ b (f + 4) = c) ∧ (d = 0 ∨ b (f + 5) = d)) : x_ens b f a c d = 1 := if_pos h
theorem x_ens0 {b : Int → Int} {f a c d : Int} (h : ¬ (b (f + 3) = a ∧ (c = 0 ∨ b (f + 4) = c) ∧ (d = 0 ∨ b (f + 5) = d))) : x_ens b f a c d = 0 := if_neg h
theorem x_nmr0 (b : Int → Int) (f e : Int) : x_is b f e 6 99 111 117 = 1 ∧ x_ens b f 110 116 121 = 1 ∧ x_nm0 b f e = 1 ∨ (x_is b f e 6 99 111 117 = 0 ∨ x_ens b f 110 116 121 = 0) ∧ x_nm0 b f e = 0 := by
  by_cases h : e - f = 6 ∧ b (f + 0) = 99 ∧ b (f + 1) = 111 ∧ b (f + 2) = 117 ∧ b (f + 3) = 110 ∧ b (f + 4) = 116 ∧ b (f + 5) = 121
  · left
    refine ⟨if_pos ⟨h.1, h.2.1, h.2.2.1, h.2.2.2.1⟩, if_pos ?_, if_pos h⟩
    refine ⟨by (first | decide +kernel | omega), ?_, ?_⟩ <;> omega
  · right
    refine ⟨?_, if_neg h⟩
    by_cases g : e - f = 6 ∧ b (f + 0) = 99 ∧ b (f + 1) = 111 ∧ b (f + 2) = 117
    · right
      refine if_neg (fun q => h ?_)
      obtain ⟨q1, q2, q3⟩ := q
      omega
    · exact Or.inl (if_neg g)
theorem x_nmr1 (b : Int → Int) (f e : Int) : x_nm1 b f e = x_is b f e 3 119 101 116 := rfl
theorem x_nmr2 (b : Int → Int) (f e : Int) : x_is b f e 4 105 114 111 = 1 ∧ x_ens b f 110 0 0 = 1 ∧ x_nm2 b f e = 1 ∨ (x_is b f e 4 105 114 111 = 0 ∨ x_ens b f 110 0 0 = 0) ∧ x_nm2 b f e = 0 := by
  by_cases h : e - f = 4 ∧ b (f + 0) = 105 ∧ b (f + 1) = 114 ∧ b (f + 2) = 111 ∧ b (f + 3) = 110
  · left
    refine ⟨if_pos ⟨h.1, h.2.1, h.2.2.1, h.2.2.2.1⟩, if_pos ?_, if_pos h⟩
    refine ⟨by (first | decide +kernel | omega), ?_, ?_⟩ <;> omega
  · right
    refine ⟨?_, if_neg h⟩
    by_cases g : e - f = 4 ∧ b (f + 0) = 105 ∧ b (f + 1) = 114 ∧ b (f + 2) = 111
    · right
      refine if_neg (fun q => h ?_)
      obtain ⟨q1, q2, q3⟩ := q
      omega
    · exact Or.inl (if_neg g)
theorem x_nmr3 (b : Int → Int) (f e : Int) : x_is b f e 4 111 100 100 = 1 ∧ x_ens b f 115 0 0 = 1 ∧ x_nm3 b f e = 1 ∨ (x_is b f e 4 111 100 100 = 0 ∨ x_ens b f 115 0 0 = 0) ∧ x_nm3 b f e = 0 := by
  by_cases h : e - f = 4 ∧ b (f + 0) = 111 ∧ b (f + 1) = 100 ∧ b (f + 2) = 100 ∧ b (f + 3) = 115
  · left
    refine ⟨if_pos ⟨h.1, h.2.1, h.2.2.1, h.2.2.2.1⟩, if_pos ?_, if_pos h⟩
    refine ⟨by (first | decide +kernel | omega), ?_, ?_⟩ <;> omega
  · right
    refine ⟨?_, if_neg h⟩
    by_cases g : e - f = 4 ∧ b (f + 0) = 111 ∧ b (f + 1) = 100 ∧ b (f + 2) = 100
    · right
      refine if_neg (fun q => h ?_)
      obtain ⟨q1, q2, q3⟩ := q
      omega
    · exact Or.inl (if_neg g)
theorem x_nmr4 (b : Int → Int) (f e : Int) : x_is b f e 5 99 108 97 = 1 ∧ x_ens b f 105 109 0 = 1 ∧ x_nm4 b f e = 1 ∨ (x_is b f e 5 99 108 97 = 0 ∨ x_ens b f 105 109 0 = 0) ∧ x_nm4 b f e = 0 := by
  by_cases h : e - f = 5 ∧ b (f + 0) = 99 ∧ b (f + 1) = 108 ∧ b (f + 2) = 97 ∧ b (f + 3) = 105 ∧ b (f + 4) = 109
  · left
    refine ⟨if_pos ⟨h.1, h.2.1, h.2.2.1, h.2.2.2.1⟩, if_pos ?_, if_pos h⟩
    refine ⟨by (first | decide +kernel | omega), ?_, ?_⟩ <;> omega
  · right
    refine ⟨?_, if_neg h⟩
    by_cases g : e - f = 5 ∧ b (f + 0) = 99 ∧ b (f + 1) = 108 ∧ b (f + 2) = 97
    · right
      refine if_neg (fun q => h ?_)
      obtain ⟨q1, q2, q3⟩ := q
      omega
    · exact Or.inl (if_neg g)
theorem x_nmr5 (b : Int → Int) (f e : Int) : x_is b f e 5 112 117 114 = 1 ∧ x_ens b f 115 101 0 = 1 ∧ x_nm5 b f e = 1 ∨ (x_is b f e 5 112 117 114 = 0 ∨ x_ens b f 115 101 0 = 0) ∧ x_nm5 b f e = 0 := by
  by_cases h : e - f = 5 ∧ b (f + 0) = 112 ∧ b (f + 1) = 117 ∧ b (f + 2) = 114 ∧ b (f + 3) = 115 ∧ b (f + 4) = 101
  · left
    refine ⟨if_pos ⟨h.1, h.2.1, h.2.2.1, h.2.2.2.1⟩, if_pos ?_, if_pos h⟩
    refine ⟨by (first | decide +kernel | omega), ?_, ?_⟩ <;> omega
  · right
    refine ⟨?_, if_neg h⟩
    by_cases g : e - f = 5 ∧ b (f + 0) = 112 ∧ b (f + 1) = 117 ∧ b (f + 2) = 114
    · right
      refine if_neg (fun q => h ?_)
      obtain ⟨q1, q2, q3⟩ := q
      omega
    · exact Or.inl (if_neg g)
theorem x_nmr6 (b : Int → Int) (f e : Int) : x_is b f e 4 99 111 115 = 1 ∧ x_ens b f 116 0 0 = 1 ∧ x_nm6 b f e = 1 ∨ (x_is b f e 4 99 111 115 = 0 ∨ x_ens b f 116 0 0 = 0) ∧ x_nm6 b f e = 0 := by
  by_cases h : e - f = 4 ∧ b (f + 0) = 99 ∧ b (f + 1) = 111 ∧ b (f + 2) = 115 ∧ b (f + 3) = 116
  · left
    refine ⟨if_pos ⟨h.1, h.2.1, h.2.2.1, h.2.2.2.1⟩, if_pos ?_, if_pos h⟩
    refine ⟨by (first | decide +kernel | omega), ?_, ?_⟩ <;> omega
  · right
    refine ⟨?_, if_neg h⟩
    by_cases g : e - f = 4 ∧ b (f + 0) = 99 ∧ b (f + 1) = 111 ∧ b (f + 2) = 115
    · right
      refine if_neg (fun q => h ?_)
      obtain ⟨q1, q2, q3⟩ := q
      omega
    · exact Or.inl (if_neg g)
theorem x_nmr7 (b : Int → Int) (f e : Int) : x_is b f e 5 112 114 105 = 1 ∧ x_ens b f 99 101 0 = 1 ∧ x_nm7 b f e = 1 ∨ (x_is b f e 5 112 114 105 = 0 ∨ x_ens b f 99 101 0 = 0) ∧ x_nm7 b f e = 0 := by
  by_cases h : e - f = 5 ∧ b (f + 0) = 112 ∧ b (f + 1) = 114 ∧ b (f + 2) = 105 ∧ b (f + 3) = 99 ∧ b (f + 4) = 101
  · left
    refine ⟨if_pos ⟨h.1, h.2.1, h.2.2.1, h.2.2.2.1⟩, if_pos ?_, if_pos h⟩
    refine ⟨by (first | decide +kernel | omega), ?_, ?_⟩ <;> omega
  · right
    refine ⟨?_, if_neg h⟩
    by_cases g : e - f = 5 ∧ b (f + 0) = 112 ∧ b (f + 1) = 114 ∧ b (f + 2) = 105
    · right
      refine if_neg (fun q => h ?_)
      obtain ⟨q1, q2, q3⟩ := q
      omega
    · exact Or.inl (if_neg g)
theorem x_nmr8 (b : Int → Int) (f e : Int) : x_nm8 b f e = x_is b f e 3 114 111 100 := rfl
theorem x_nmr9 (b : Int → Int) (f e : Int) : x_nm9 b f e = x_is b f e 3 111 119 101 := rfl
theorem x_nmr10 (b : Int → Int) (f e : Int) : x_is b f e 5 119 97 116 = 1 ∧ x_ens b f 101 114 0 = 1 ∧ x_nm10 b f e = 1 ∨ (x_is b f e 5 119 97 116 = 0 ∨ x_ens b f 101 114 0 = 0) ∧ x_nm10 b f e = 0 := by
  by_cases h : e - f = 5 ∧ b (f + 0) = 119 ∧ b (f + 1) = 97 ∧ b (f + 2) = 116 ∧ b (f + 3) = 101 ∧ b (f + 4) = 114
  · left
    refine ⟨if_pos ⟨h.1, h.2.1, h.2.2.1, h.2.2.2.1⟩, if_pos ?_, if_pos h⟩
    refine ⟨by (first | decide +kernel | omega), ?_, ?_⟩ <;> omega
  · right
    refine ⟨?_, if_neg h⟩
    by_cases g : e - f = 5 ∧ b (f + 0) = 119 ∧ b (f + 1) = 97 ∧ b (f + 2) = 116
    · right
      refine if_neg (fun q => h ?_)
      obtain ⟨q1, q2, q3⟩ := q
      omega
    · exact Or.inl (if_neg g)
theorem x_nmr11 (b : Int → Int) (f e : Int) : x_is b f e 5 115 116 101 = 1 ∧ x_ens b f 112 115 0 = 1 ∧ x_nm11 b f e = 1 ∨ (x_is b f e 5 115 116 101 = 0 ∨ x_ens b f 112 115 0 = 0) ∧ x_nm11 b f e = 0 := by
  by_cases h : e - f = 5 ∧ b (f + 0) = 115 ∧ b (f + 1) = 116 ∧ b (f + 2) = 101 ∧ b (f + 3) = 112 ∧ b (f + 4) = 115
  · left
    refine ⟨if_pos ⟨h.1, h.2.1, h.2.2.1, h.2.2.2.1⟩, if_pos ?_, if_pos h⟩
    refine ⟨by (first | decide +kernel | omega), ?_, ?_⟩ <;> omega
  · right
    refine ⟨?_, if_neg h⟩
    by_cases g : e - f = 5 ∧ b (f + 0) = 115 ∧ b (f + 1) = 116 ∧ b (f + 2) = 101
    · right
      refine if_neg (fun q => h ?_)
      obtain ⟨q1, q2, q3⟩ := q
      omega
    · exact Or.inl (if_neg g)
theorem x_nmr12 (b : Int → Int) (f e : Int) : x_is b f e 6 119 105 115 = 1 ∧ x_ens b f 104 101 115 = 1 ∧ x_nm12 b f e = 1 ∨ (x_is b f e 6 119 105 115 = 0 ∨ x_ens b f 104 101 115 = 0) ∧ x_nm12 b f e = 0 := by
  by_cases h : e - f = 6 ∧ b (f + 0) = 119 ∧ b (f + 1) = 105 ∧ b (f + 2) = 115 ∧ b (f + 3) = 104 ∧ b (f + 4) = 101 ∧ b (f + 5) = 115
  · left
    refine ⟨if_pos ⟨h.1, h.2.1, h.2.2.1, h.2.2.2.1⟩, if_pos ?_, if_pos h⟩
    refine ⟨by (first | decide +kernel | omega), ?_, ?_⟩ <;> omega
  · right
    refine ⟨?_, if_neg h⟩
    by_cases g : e - f = 6 ∧ b (f + 0) = 119 ∧ b (f + 1) = 105 ∧ b (f + 2) = 115
    · right
      refine if_neg (fun q => h ?_)
      obtain ⟨q1, q2, q3⟩ := q
      omega
    · exact Or.inl (if_neg g)
theorem x_nmr13 (b : Int → Int) (f e : Int) : x_is b f e 4 98 111 116 = 1 ∧ x_ens b f 104 0 0 = 1 ∧ x_nm13 b f e = 1 ∨ (x_is b f e 4 98 111 116 = 0 ∨ x_ens b f 104 0 0 = 0) ∧ x_nm13 b f e = 0 := by
  by_cases h : e - f = 4 ∧ b (f + 0) = 98 ∧ b (f + 1) = 111 ∧ b (f + 2) = 116 ∧ b (f + 3) = 104
  · left
    refine ⟨if_pos ⟨h.1, h.2.1, h.2.2.1, h.2.2.2.1⟩, if_pos ?_, if_pos h⟩
    refine ⟨by (first | decide +kernel | omega), ?_, ?_⟩ <;> omega
  · right
    refine ⟨?_, if_neg h⟩
    by_cases g : e - f = 4 ∧ b (f + 0) = 98 ∧ b (f + 1) = 111 ∧ b (f + 2) = 116
    · right
      refine if_neg (fun q => h ?_)
      obtain ⟨q1, q2, q3⟩ := q
      omega
    · exact Or.inl (if_neg g)
def x_ln (b : Int → Int) (f e : Int) : Int := if x_nm0 b f e = 1 then 0 else if x_nm1 b f e = 1 then 1 else if x_nm2 b f e = 1 then 2 else if x_nm3 b f e = 1 then 3 else if x_nm4 b f e = 1 then 4 else if x_nm5 b f e = 1 then 5 else if x_nm6 b f e = 1 then 6 else if x_nm7 b f e = 1 then 7 else if x_nm8 b f e = 1 then 8 else if x_nm9 b f e = 1 then 9 else -1
theorem x_ln_of0 {b : Int → Int} {f e : Int} (h : x_nm0 b f e = 1) : x_ln b f e = 0 := by
  have g := x_nmc0 h
  unfold x_ln
  rw [if_pos h]
theorem x_ln_of1 {b : Int → Int} {f e : Int} (h : x_nm1 b f e = 1) : x_ln b f e = 1 := by
  have g := x_nmc1 h
  have n0 : ¬ x_nm0 b f e = 1 := fun q => by have := x_nmc0 q; omega
  unfold x_ln
  rw [if_neg n0, if_pos h]
theorem x_ln_of2 {b : Int → Int} {f e : Int} (h : x_nm2 b f e = 1) : x_ln b f e = 2 := by
  have g := x_nmc2 h
  have n0 : ¬ x_nm0 b f e = 1 := fun q => by have := x_nmc0 q; omega
  have n1 : ¬ x_nm1 b f e = 1 := fun q => by have := x_nmc1 q; omega
  unfold x_ln
  rw [if_neg n0, if_neg n1, if_pos h]
theorem x_ln_of3 {b : Int → Int} {f e : Int} (h : x_nm3 b f e = 1) : x_ln b f e = 3 := by
  have g := x_nmc3 h
  have n0 : ¬ x_nm0 b f e = 1 := fun q => by have := x_nmc0 q; omega
  have n1 : ¬ x_nm1 b f e = 1 := fun q => by have := x_nmc1 q; omega
  have n2 : ¬ x_nm2 b f e = 1 := fun q => by have := x_nmc2 q; omega
  unfold x_ln
  rw [if_neg n0, if_neg n1, if_neg n2, if_pos h]
theorem x_ln_of4 {b : Int → Int} {f e : Int} (h : x_nm4 b f e = 1) : x_ln b f e = 4 := by
  have g := x_nmc4 h
  have n0 : ¬ x_nm0 b f e = 1 := fun q => by have := x_nmc0 q; omega
  have n1 : ¬ x_nm1 b f e = 1 := fun q => by have := x_nmc1 q; omega
  have n2 : ¬ x_nm2 b f e = 1 := fun q => by have := x_nmc2 q; omega
  have n3 : ¬ x_nm3 b f e = 1 := fun q => by have := x_nmc3 q; omega
  unfold x_ln
  rw [if_neg n0, if_neg n1, if_neg n2, if_neg n3, if_pos h]
theorem x_ln_of5 {b : Int → Int} {f e : Int} (h : x_nm5 b f e = 1) : x_ln b f e = 5 := by
  have g := x_nmc5 h
  have n0 : ¬ x_nm0 b f e = 1 := fun q => by have := x_nmc0 q; omega
  have n1 : ¬ x_nm1 b f e = 1 := fun q => by have := x_nmc1 q; omega
  have n2 : ¬ x_nm2 b f e = 1 := fun q => by have := x_nmc2 q; omega
  have n3 : ¬ x_nm3 b f e = 1 := fun q => by have := x_nmc3 q; omega
  have n4 : ¬ x_nm4 b f e = 1 := fun q => by have := x_nmc4 q; omega
  unfold x_ln
  rw [if_neg n0, if_neg n1, if_neg n2, if_neg n3, if_neg n4, if_pos h]
theorem x_ln_of6 {b : Int → Int} {f e : Int} (h : x_nm6 b f e = 1) : x_ln b f e = 6 := by
  have g := x_nmc6 h
  have n0 : ¬ x_nm0 b f e = 1 := fun q => by have := x_nmc0 q; omega
  have n1 : ¬ x_nm1 b f e = 1 := fun q => by have := x_nmc1 q; omega
  have n2 : ¬ x_nm2 b f e = 1 := fun q => by have := x_nmc2 q; omega
  have n3 : ¬ x_nm3 b f e = 1 := fun q => by have := x_nmc3 q; omega
  have n4 : ¬ x_nm4 b f e = 1 := fun q => by have := x_nmc4 q; omega
  have n5 : ¬ x_nm5 b f e = 1 := fun q => by have := x_nmc5 q; omega
  unfold x_ln
  rw [if_neg n0, if_neg n1, if_neg n2, if_neg n3, if_neg n4, if_neg n5, if_pos h]
theorem x_ln_of7 {b : Int → Int} {f e : Int} (h : x_nm7 b f e = 1) : x_ln b f e = 7 := by
  have g := x_nmc7 h
  have n0 : ¬ x_nm0 b f e = 1 := fun q => by have := x_nmc0 q; omega
  have n1 : ¬ x_nm1 b f e = 1 := fun q => by have := x_nmc1 q; omega
  have n2 : ¬ x_nm2 b f e = 1 := fun q => by have := x_nmc2 q; omega
  have n3 : ¬ x_nm3 b f e = 1 := fun q => by have := x_nmc3 q; omega
  have n4 : ¬ x_nm4 b f e = 1 := fun q => by have := x_nmc4 q; omega
  have n5 : ¬ x_nm5 b f e = 1 := fun q => by have := x_nmc5 q; omega
  have n6 : ¬ x_nm6 b f e = 1 := fun q => by have := x_nmc6 q; omega
  unfold x_ln
  rw [if_neg n0, if_neg n1, if_neg n2, if_neg n3, if_neg n4, if_neg n5, if_neg n6, if_pos h]
theorem x_ln_of8 {b : Int → Int} {f e : Int} (h : x_nm8 b f e = 1) : x_ln b f e = 8 := by
  have g := x_nmc8 h
  have n0 : ¬ x_nm0 b f e = 1 := fun q => by have := x_nmc0 q; omega
  have n1 : ¬ x_nm1 b f e = 1 := fun q => by have := x_nmc1 q; omega
  have n2 : ¬ x_nm2 b f e = 1 := fun q => by have := x_nmc2 q; omega
  have n3 : ¬ x_nm3 b f e = 1 := fun q => by have := x_nmc3 q; omega
  have n4 : ¬ x_nm4 b f e = 1 := fun q => by have := x_nmc4 q; omega
  have n5 : ¬ x_nm5 b f e = 1 := fun q => by have := x_nmc5 q; omega
  have n6 : ¬ x_nm6 b f e = 1 := fun q => by have := x_nmc6 q; omega
  have n7 : ¬ x_nm7 b f e = 1 := fun q => by have := x_nmc7 q; omega
  unfold x_ln
  rw [if_neg n0, if_neg n1, if_neg n2, if_neg n3, if_neg n4, if_neg n5, if_neg n6, if_neg n7, if_pos h]
theorem x_ln_of9 {b : Int → Int} {f e : Int} (h : x_nm9 b f e = 1) : x_ln b f e = 9 := by
  have g := x_nmc9 h
  have n0 : ¬ x_nm0 b f e = 1 := fun q => by have := x_nmc0 q; omega
  have n1 : ¬ x_nm1 b f e = 1 := fun q => by have := x_nmc1 q; omega
  have n2 : ¬ x_nm2 b f e = 1 := fun q => by have := x_nmc2 q; omega
  have n3 : ¬ x_nm3 b f e = 1 := fun q => by have := x_nmc3 q; omega
  have n4 : ¬ x_nm4 b f e = 1 := fun q => by have := x_nmc4 q; omega
  have n5 : ¬ x_nm5 b f e = 1 := fun q => by have := x_nmc5 q; omega
  have n6 : ¬ x_nm6 b f e = 1 := fun q => by have := x_nmc6 q; omega
  have n7 : ¬ x_nm7 b f e = 1 := fun q => by have := x_nmc7 q; omega
  have n8 : ¬ x_nm8 b f e = 1 := fun q => by have := x_nmc8 q; omega
  unfold x_ln
  rw [if_neg n0, if_neg n1, if_neg n2, if_neg n3, if_neg n4, if_neg n5, if_neg n6, if_neg n7, if_neg n8, if_pos h]
theorem x_ln_no {b : Int → Int} {f e : Int} (h0 : x_nm0 b f e = 0) (h1 : x_nm1 b f e = 0) (h2 : x_nm2 b f e = 0) (h3 : x_nm3 b f e = 0) (h4 : x_nm4 b f e = 0) (h5 : x_nm5 b f e = 0) (h6 : x_nm6 b f e = 0) (h7 : x_nm7 b f e = 0) (h8 : x_nm8 b f e = 0) (h9 : x_nm9 b f e = 0) : x_ln b f e = -1 := by
  unfold x_ln
  rw [if_neg (by (first | decide +kernel | omega)), if_neg (by (first | decide +kernel | omega)), if_neg (by (first | decide +kernel | omega)), if_neg (by (first | decide +kernel | omega)), if_neg (by (first | decide +kernel | omega)), if_neg (by (first | decide +kernel | omega)), if_neg (by (first | decide +kernel | omega)), if_neg (by (first | decide +kernel | omega)), if_neg (by (first | decide +kernel | omega)), if_neg (by (first | decide +kernel | omega))]
def x_nt (b : Int → Int) (f e : Int) : Int := if x_nm10 b f e = 1 then 0 else if x_nm2 b f e = 1 then 1 else if x_nm11 b f e = 1 then 2 else if x_nm12 b f e = 1 then 3 else if x_nm13 b f e = 1 then 4 else -1
theorem x_nt_of0 {b : Int → Int} {f e : Int} (h : x_nm10 b f e = 1) : x_nt b f e = 0 := by
  have g := x_nmc10 h
  unfold x_nt
  rw [if_pos h]
theorem x_nt_of1 {b : Int → Int} {f e : Int} (h : x_nm2 b f e = 1) : x_nt b f e = 1 := by
  have g := x_nmc2 h
  have n0 : ¬ x_nm10 b f e = 1 := fun q => by have := x_nmc10 q; omega
  unfold x_nt
  rw [if_neg n0, if_pos h]
theorem x_nt_of2 {b : Int → Int} {f e : Int} (h : x_nm11 b f e = 1) : x_nt b f e = 2 := by
  have g := x_nmc11 h
  have n0 : ¬ x_nm10 b f e = 1 := fun q => by have := x_nmc10 q; omega
  have n1 : ¬ x_nm2 b f e = 1 := fun q => by have := x_nmc2 q; omega
  unfold x_nt
  rw [if_neg n0, if_neg n1, if_pos h]
theorem x_nt_of3 {b : Int → Int} {f e : Int} (h : x_nm12 b f e = 1) : x_nt b f e = 3 := by
  have g := x_nmc12 h
  have n0 : ¬ x_nm10 b f e = 1 := fun q => by have := x_nmc10 q; omega
  have n1 : ¬ x_nm2 b f e = 1 := fun q => by have := x_nmc2 q; omega
  have n2 : ¬ x_nm11 b f e = 1 := fun q => by have := x_nmc11 q; omega
  unfold x_nt
  rw [if_neg n0, if_neg n1, if_neg n2, if_pos h]
theorem x_nt_of4 {b : Int → Int} {f e : Int} (h : x_nm13 b f e = 1) : x_nt b f e = 4 := by
  have g := x_nmc13 h
  have n0 : ¬ x_nm10 b f e = 1 := fun q => by have := x_nmc10 q; omega
  have n1 : ¬ x_nm2 b f e = 1 := fun q => by have := x_nmc2 q; omega
  have n2 : ¬ x_nm11 b f e = 1 := fun q => by have := x_nmc11 q; omega
  have n3 : ¬ x_nm12 b f e = 1 := fun q => by have := x_nmc12 q; omega
  unfold x_nt
  rw [if_neg n0, if_neg n1, if_neg n2, if_neg n3, if_pos h]
theorem x_nt_no {b : Int → Int} {f e : Int} (h10 : x_nm10 b f e = 0) (h2 : x_nm2 b f e = 0) (h11 : x_nm11 b f e = 0) (h12 : x_nm12 b f e = 0) (h13 : x_nm13 b f e = 0) : x_nt b f e = -1 := by
  unfold x_nt
  rw [if_neg (by (first | decide +kernel | omega)), if_neg (by (first | decide +kernel | omega)), if_neg (by (first | decide +kernel | omega)), if_neg (by (first | decide +kernel | omega)), if_neg (by (first | decide +kernel | omega))]
theorem x_lnR {b : Int → Int} {f e r : Int} (h : r = 0 ∧ x_nm0 b f e = 1 ∨ r = 1 ∧ x_nm6 b f e = 1 ∨ r = 2 ∧ x_nm7 b f e = 1 ∨ r = 3 ∧ x_nm8 b f e = 1 ∨ r = -4 ∧ x_nm0 b f e = 0 ∧ x_nm6 b f e = 0 ∧ x_nm7 b f e = 0 ∧ x_nm8 b f e = 0) (h1 : x_nm1 b f e = 0) (h2 : x_nm2 b f e = 0) (h3 : x_nm3 b f e = 0) (h4 : x_nm4 b f e = 0) (h5 : x_nm5 b f e = 0) (h9 : x_nm9 b f e = 0) : r = 0 ∧ x_ln b f e = 0 ∨ r = 1 ∧ x_ln b f e = 6 ∨ r = 2 ∧ x_ln b f e = 7 ∨ r = 3 ∧ x_ln b f e = 8 ∨ r = -4 ∧ x_ln b f e = -1 := by
  rcases h with h | h | h | h | h
  · have := x_ln_of0 h.2; omega
  · have := x_ln_of6 h.2; omega
  · have := x_ln_of7 h.2; omega
  · have := x_ln_of8 h.2; omega
  · have := x_ln_no (b := b) (f := f) (e := e) (by (first | decide +kernel | omega)) h1 h2 h3 h4 h5 (by (first | decide +kernel | omega)) (by (first | decide +kernel | omega)) (by (first | decide +kernel | omega)) h9; omega
theorem rn_ge {P : Int → Bool} {b : Int → Int} (p : Int) : p ≤ rn P b p := by
  unfold rn
  generalize (161 - p).toNat = k
  induction k generalizing p with
  | zero => exact Int.le_refl p
  | succ k ih =>
    show p ≤ (if P (b p) = true then rnF P b k (p + 1) else p)
    split
    · have := ih (p + 1); omega
    · exact Int.le_refl p
theorem bq (b : Int → Int) (x y : Int) : x ≠ y ∨ b x = b y := by
  by_cases h : x = y
  · exact Or.inr (by rw [h])
  · exact Or.inl h
theorem wr_mul {a b z : Int32} {A B Z : Int} (pa : a.toInt = A) (pb : b.toInt = B) (e : z = a * b) (p : z.toInt = Z) : Z = A * B ∨ A * B < -2147483648 ∨ 2147483648 ≤ A * B := by
  by_cases h : -2147483648 ≤ A * B ∧ A * B < 2147483648
  · left; rw [← p, e]; exact ti_mul pa pb (by (first | decide +kernel | omega))
  · omega
theorem wr_add {a b z : Int32} {A B Z : Int} (pa : a.toInt = A) (pb : b.toInt = B) (e : z = a + b) (p : z.toInt = Z) : Z = A + B ∨ A + B < -2147483648 ∨ 2147483648 ≤ A + B := by
  by_cases h : -2147483648 ≤ A + B ∧ A + B < 2147483648
  · left; rw [← p, e]; exact ti_add pa pb (by (first | decide +kernel | omega))
  · omega
theorem wr_sub {a b z : Int32} {A B Z : Int} (pa : a.toInt = A) (pb : b.toInt = B) (e : z = a - b) (p : z.toInt = Z) : Z = A - B ∨ A - B < -2147483648 ∨ 2147483648 ≤ A - B := by
  by_cases h : -2147483648 ≤ A - B ∧ A - B < 2147483648
  · left; rw [← p, e]; exact ti_sub pa pb (by (first | decide +kernel | omega))
  · omega
end
section
def VFp (b : Int → Int) (t u v : Int) : Prop := u = t ∧ v = 0 ∨ u = t + 1 ∧ v = b t - 48 ∨ u = t + 2 ∧ v = 10 * (b t - 48) + (b (t + 1) - 48) ∨ t + 3 ≤ u
def DFp (b : Int → Int) (t u : Int) : Prop := (u = t ∨ 48 ≤ b t ∧ b t ≤ 57) ∧ (u ≤ t + 1 ∨ 48 ≤ b (t + 1) ∧ b (t + 1) ≤ 57)
theorem dj2 (z : Int) : z ≠ 0 ∨ z = 0 := by (first | decide +kernel | omega)
theorem dj3 (z c : Int) : z ≠ 0 ∧ c ≠ 0 ∨ z ≠ 0 ∧ c = 0 ∨ z = 0 := by (first | decide +kernel | omega)
theorem dj4 (z c d : Int) : z ≠ 0 ∧ c ≠ 0 ∨ z ≠ 0 ∧ c = 0 ∧ d ≠ 0 ∨ z ≠ 0 ∧ c = 0 ∧ d = 0 ∨ z = 0 := by (first | decide +kernel | omega)
theorem VFp_0 {b : Int → Int} {t : Int} : VFp b t t 0 := Or.inl ⟨rfl, rfl⟩
theorem DFp_0 {b : Int → Int} {t : Int} : DFp b t t := ⟨Or.inl rfl, Or.inl (by (first | decide +kernel | omega))⟩
theorem DFp_s {b : Int → Int} {t u : Int} (d : DFp b t u) (hu : t ≤ u) (f : 48 ≤ b u ∧ b u ≤ 57) : DFp b t (u + 1) := by
  obtain ⟨d1, d2⟩ := d
  constructor
  · by_cases q : u = t
    · rw [q] at f; exact Or.inr f
    · exact Or.inr (d1.resolve_left q)
  · by_cases q : u ≤ t
    · exact Or.inl (by (first | decide +kernel | omega))
    · by_cases q2 : u = t + 1
      · rw [q2] at f; exact Or.inr f
      · exact Or.inr (d2.resolve_left (by (first | decide +kernel | omega)))
theorem VFp_s {b : Int → Int} {t u v A B C X : Int} (k : VFp b t u v) (d : DFp b t u) (f : 48 ≤ b u ∧ b u ≤ 57) (hx : X = b u) (m : A = 10 * v ∨ 10 * v < -2147483648 ∨ 2147483648 ≤ 10 * v) (a : B = A + X ∨ A + X < -2147483648 ∨ 2147483648 ≤ A + X) (s : C = B - 48 ∨ B - 48 < -2147483648 ∨ 2147483648 ≤ B - 48) : VFp b t (u + 1) C := by
  subst hx
  rcases k with ⟨k1, k2⟩ | ⟨k1, k2⟩ | ⟨k1, k2⟩ | k1
  · have m1 := m.resolve_right (by (first | decide +kernel | omega))
    have a1 := a.resolve_right (by (first | decide +kernel | omega))
    have s1 := s.resolve_right (by (first | decide +kernel | omega))
    rw [k1] at a1
    exact Or.inr (Or.inl ⟨by (first | decide +kernel | omega), by (first | decide +kernel | omega)⟩)
  · have d1 := d.1.resolve_left (by (first | decide +kernel | omega))
    have m1 := m.resolve_right (by (first | decide +kernel | omega))
    have a1 := a.resolve_right (by (first | decide +kernel | omega))
    have s1 := s.resolve_right (by (first | decide +kernel | omega))
    rw [k1] at a1
    exact Or.inr (Or.inr (Or.inl ⟨by (first | decide +kernel | omega), by (first | decide +kernel | omega)⟩))
  · exact Or.inr (Or.inr (Or.inr (by (first | decide +kernel | omega))))
  · exact Or.inr (Or.inr (Or.inr (by (first | decide +kernel | omega))))
theorem VFp_e {b : Int → Int} {t u v : Int} (k : VFp b t u v) (d : DFp b t u) : u - t = 0 ∨ u - t = 1 ∧ v = b t - 48 ∧ 0 ≤ v ∧ v ≤ 9 ∨ u - t = 2 ∧ v = 10 * (b t - 48) + (b (t + 1) - 48) ∧ 0 ≤ v ∧ v ≤ 99 ∨ 2 < u - t := by
  rcases k with ⟨k1, k2⟩ | ⟨k1, k2⟩ | ⟨k1, k2⟩ | k1
  · exact Or.inl (by (first | decide +kernel | omega))
  · have d1 := d.1.resolve_left (by (first | decide +kernel | omega))
    exact Or.inr (Or.inl ⟨by (first | decide +kernel | omega), k2, by (first | decide +kernel | omega), by (first | decide +kernel | omega)⟩)
  · have d1 := d.1.resolve_left (by (first | decide +kernel | omega))
    have d2 := d.2.resolve_left (by (first | decide +kernel | omega))
    exact Or.inr (Or.inr (Or.inl ⟨by (first | decide +kernel | omega), k2, by (first | decide +kernel | omega), by (first | decide +kernel | omega)⟩))
  · exact Or.inr (Or.inr (Or.inr (by (first | decide +kernel | omega))))
theorem adv_2 {b : Int → Int} {t s f k u v : Int} (p : f = x_fr b t ∧ k = x_kd b t ∧ (k = 4 ∨ u = x_en b t) ∧ (k ≠ 2 ∨ v = x_vl b t ∧ 0 ≤ v ∧ v ≤ 99) ∧ t ≤ f ∧ f ≤ u ∧ u ≤ s ∧ (k = 0 ∧ f = s ∨ k ≠ 0 ∧ f < s) ∧ 0 ≤ k ∧ k ≤ 4 ∧ (k = 0 ∨ k = 4 ∨ f < u)) (hk : k = 2) : k = 2 ∧ f = x_fr b t ∧ x_kd b t = 2 ∧ u = x_en b t ∧ v = x_vl b t ∧ 0 ≤ v ∧ v ≤ 99 ∧ t ≤ f ∧ f < u ∧ u ≤ s ∧ f < s := by
  obtain ⟨p1, p2, p3, p4, p5, p6, p7, p8, p9, p10, p11⟩ := p
  have q3 := p3.resolve_left (by (first | decide +kernel | omega))
  have q4 := p4.resolve_left (by (first | decide +kernel | omega))
  have q11 := (p11.resolve_left (by (first | decide +kernel | omega))).resolve_left (by (first | decide +kernel | omega))
  exact ⟨hk, p1, by (first | decide +kernel | omega), q3, q4.1, q4.2.1, q4.2.2, p5, q11, p7, by (first | decide +kernel | omega)⟩
theorem adv_m {b : Int → Int} {t s f k u v : Int} (m : Int) (p : f = x_fr b t ∧ k = x_kd b t ∧ (k = 4 ∨ u = x_en b t) ∧ (k ≠ 2 ∨ v = x_vl b t ∧ 0 ≤ v ∧ v ≤ 99) ∧ t ≤ f ∧ f ≤ u ∧ u ≤ s ∧ (k = 0 ∧ f = s ∨ k ≠ 0 ∧ f < s) ∧ 0 ≤ k ∧ k ≤ 4 ∧ (k = 0 ∨ k = 4 ∨ f < u)) (hk : k = m) (h0 : m ≠ 0 ∧ m ≠ 4) : k = m ∧ f = x_fr b t ∧ x_kd b t = m ∧ u = x_en b t ∧ t ≤ f ∧ f < u ∧ u ≤ s ∧ f < s := by
  obtain ⟨p1, p2, p3, p4, p5, p6, p7, p8, p9, p10, p11⟩ := p
  have q3 := p3.resolve_left (by (first | decide +kernel | omega))
  have q11 := (p11.resolve_left (by (first | decide +kernel | omega))).resolve_left (by (first | decide +kernel | omega))
  exact ⟨hk, p1, by (first | decide +kernel | omega), q3, p5, q11, p7, by (first | decide +kernel | omega)⟩
theorem adv_0 {b : Int → Int} {t s f k u v : Int} (p : f = x_fr b t ∧ k = x_kd b t ∧ (k = 4 ∨ u = x_en b t) ∧ (k ≠ 2 ∨ v = x_vl b t ∧ 0 ≤ v ∧ v ≤ 99) ∧ t ≤ f ∧ f ≤ u ∧ u ≤ s ∧ (k = 0 ∧ f = s ∨ k ≠ 0 ∧ f < s) ∧ 0 ≤ k ∧ k ≤ 4 ∧ (k = 0 ∨ k = 4 ∨ f < u)) : f = x_fr b t ∧ k = x_kd b t ∧ t ≤ f ∧ f ≤ u ∧ u ≤ s ∧ 0 ≤ k ∧ k ≤ 4 := ⟨p.1, p.2.1, p.2.2.2.2.1, p.2.2.2.2.2.1, p.2.2.2.2.2.2.1, p.2.2.2.2.2.2.2.2.1, p.2.2.2.2.2.2.2.2.2.1⟩
theorem kd_y {k m r e w y a f : Int} (p : k = 4 ∧ r = 0 ∧ e = 1 ∧ y = f ∨ k ≠ 4 ∧ k = m ∧ r = 1 ∧ e = w ∧ y = a ∨ k ≠ 4 ∧ k ≠ m ∧ r = 0 ∧ e = 2 ∧ y = f) (hr : r ≠ 0) : k ≠ 4 ∧ k = m ∧ r = 1 ∧ e = w ∧ y = a := by
  rcases p with ⟨_, p, _⟩ | p | ⟨_, _, p, _⟩
  · exact absurd p hr
  · exact p
  · exact absurd p hr
theorem kd_n {k m r e w y a f : Int} (p : k = 4 ∧ r = 0 ∧ e = 1 ∧ y = f ∨ k ≠ 4 ∧ k = m ∧ r = 1 ∧ e = w ∧ y = a ∨ k ≠ 4 ∧ k ≠ m ∧ r = 0 ∧ e = 2 ∧ y = f) (hr : r = 0) : k = 4 ∧ e = 1 ∧ y = f ∨ k ≠ 4 ∧ k ≠ m ∧ e = 2 ∧ y = f := by
  rcases p with ⟨p1, _, p2, p3⟩ | ⟨_, _, p, _⟩ | ⟨p1, p2, _, p3, p4⟩
  · exact Or.inl ⟨p1, p2, p3⟩
  · omega
  · exact Or.inr ⟨p1, p2, p3, p4⟩
def VQp (b : Int → Int) (f u v : Int) : Prop := u = f ∧ v = 0 ∨ u = f + 1 ∧ v = b f - 48 ∨ f + 2 ≤ u ∧ v = 10 * (b f - 48) + (b (f + 1) - 48)
theorem VQp_0 {b : Int → Int} {f : Int} : VQp b f f 0 := Or.inl ⟨rfl, rfl⟩
theorem VQp_k {b : Int → Int} {f u v : Int} (k : VQp b f u v) (h : f + 2 ≤ u) : VQp b f (u + 1) v := by
  rcases k with ⟨k1, k2⟩ | ⟨k1, k2⟩ | ⟨k1, k2⟩
  · omega
  · omega
  · exact Or.inr (Or.inr ⟨by (first | decide +kernel | omega), k2⟩)
theorem VQp_b {b : Int → Int} {f u v : Int} (k : VQp b f u v) (d : DFp b f u) (h : u < f + 2) : 0 ≤ v ∧ v ≤ 9 := by
  rcases k with ⟨k1, k2⟩ | ⟨k1, k2⟩ | ⟨k1, k2⟩
  · omega
  · have d1 := d.1.resolve_left (by (first | decide +kernel | omega))
    omega
  · omega
theorem VQp_s {b : Int → Int} {f u v X : Int} (k : VQp b f u v) (hx : X = b u) (h : u < f + 2) : VQp b f (u + 1) (10 * v + X - 48) := by
  subst hx
  rcases k with ⟨k1, k2⟩ | ⟨k1, k2⟩ | ⟨k1, k2⟩
  · rw [k1, k2]
    exact Or.inr (Or.inl ⟨rfl, by (first | decide +kernel | omega)⟩)
  · rw [k1, k2]
    exact Or.inr (Or.inr ⟨by (first | decide +kernel | omega), by (first | decide +kernel | omega)⟩)
  · omega
theorem VQp_e {b : Int → Int} {f u v : Int} (k : VQp b f u v) (h : u - f = 1 ∨ u - f = 2) : u - f = 1 ∧ v = b f - 48 ∨ u - f = 2 ∧ v = 10 * (b f - 48) + (b (f + 1) - 48) := by
  rcases k with ⟨k1, k2⟩ | ⟨k1, k2⟩ | ⟨k1, k2⟩
  · omega
  · exact Or.inl ⟨by (first | decide +kernel | omega), k2⟩
  · exact Or.inr ⟨by (first | decide +kernel | omega), k2⟩
theorem VQp_r {b : Int → Int} {f u v : Int} (k : VQp b f u v) (d : DFp b f u) (h : u - f = 1 ∨ u - f = 2) : 0 ≤ v ∧ v ≤ 99 := by
  rcases k with ⟨k1, k2⟩ | ⟨k1, k2⟩ | ⟨k1, k2⟩
  · omega
  · have d1 := d.1.resolve_left (by (first | decide +kernel | omega))
    omega
  · have d1 := d.1.resolve_left (by (first | decide +kernel | omega))
    have d2 := d.2.resolve_left (by (first | decide +kernel | omega))
    omega
end
section
abbrev q_Tape_isLetterX (h : Hp) (c : Int32) (cZ : Int) : Option Value → Hp → Prop := pInt (fun r h' => h = h' ∧ (97 ≤ cZ ∧ cZ ≤ 122 ∧ r.toInt = 1 ∨ (cZ < 97 ∨ 122 < cZ) ∧ r.toInt = 0))
set_option maxRecDepth 100000 in
theorem c_Tape_isLetterX (h : Hp) (c : Int32) (cZ : Int) (cE : c.toInt = cZ) : Ct y_Tape_isLetter b_Tape_isLetter 1 (some .boolean) 0 0 [.int c] h (q_Tape_isLetterX h c cZ) := by
  refine ct_ow R_Tape [some (.int c)] rfl (by decide) rfl (Nat.le_of_ble_eq_true rfl) ?_
  have f0 : fr [] h h := fr_rf
  refine V_iload_n 0 d_Tape_isLetter_0 rfl rfl ?_
  refine V_bipush 97 d_Tape_isLetter_1 (by decide) ?_
  refine V_icmp_lt 16 cE tc_97 d_Tape_isLetter_3 (by decide) (fun c1 => ?_) (fun c1 => ?_)
  ·
    refine V_iconst 0 d_Tape_isLetter_16 (by decide) ?_
    exact V_zret rfl (by decide) d_Tape_isLetter_17 ⟨0, rfl, ⟨rfl, (by (try rw [show Int32.toInt 0 = 0 from rfl]) <;> omega)⟩⟩
  ·
    refine V_iload_n 0 d_Tape_isLetter_6 rfl rfl ?_
    refine V_bipush 122 d_Tape_isLetter_7 (by decide) ?_
    refine V_icmp_gt 16 cE tc_122 d_Tape_isLetter_9 (by decide) (fun c2 => ?_) (fun c2 => ?_)
    ·
      refine V_iconst 0 d_Tape_isLetter_16 (by decide) ?_
      exact V_zret rfl (by decide) d_Tape_isLetter_17 ⟨0, rfl, ⟨rfl, (by (try rw [show Int32.toInt 0 = 0 from rfl]) <;> omega)⟩⟩
    ·
      refine V_iconst 1 d_Tape_isLetter_12 (by decide) ?_
      refine V_goto 17 d_Tape_isLetter_13 (by decide) ?_
      exact V_zret rfl (by decide) d_Tape_isLetter_17 ⟨1, rfl, ⟨rfl, (by (try rw [show Int32.toInt 1 = 1 from rfl]) <;> omega)⟩⟩
abbrev q_Tape_isFigureX (h : Hp) (c : Int32) (cZ : Int) : Option Value → Hp → Prop := pInt (fun r h' => h = h' ∧ (48 ≤ cZ ∧ cZ ≤ 57 ∧ r.toInt = 1 ∨ (cZ < 48 ∨ 57 < cZ) ∧ r.toInt = 0))
set_option maxRecDepth 100000 in
theorem c_Tape_isFigureX (h : Hp) (c : Int32) (cZ : Int) (cE : c.toInt = cZ) : Ct y_Tape_isFigure b_Tape_isFigure 1 (some .boolean) 0 0 [.int c] h (q_Tape_isFigureX h c cZ) := by
  refine ct_ow R_Tape [some (.int c)] rfl (by decide) rfl (Nat.le_of_ble_eq_true rfl) ?_
  have f0 : fr [] h h := fr_rf
  refine V_iload_n 0 d_Tape_isFigure_0 rfl rfl ?_
  refine V_bipush 48 d_Tape_isFigure_1 (by decide) ?_
  refine V_icmp_lt 16 cE tc_48 d_Tape_isFigure_3 (by decide) (fun c1 => ?_) (fun c1 => ?_)
  ·
    refine V_iconst 0 d_Tape_isFigure_16 (by decide) ?_
    exact V_zret rfl (by decide) d_Tape_isFigure_17 ⟨0, rfl, ⟨rfl, (by (try rw [show Int32.toInt 0 = 0 from rfl]) <;> omega)⟩⟩
  ·
    refine V_iload_n 0 d_Tape_isFigure_6 rfl rfl ?_
    refine V_bipush 57 d_Tape_isFigure_7 (by decide) ?_
    refine V_icmp_gt 16 cE tc_57 d_Tape_isFigure_9 (by decide) (fun c2 => ?_) (fun c2 => ?_)
    ·
      refine V_iconst 0 d_Tape_isFigure_16 (by decide) ?_
      exact V_zret rfl (by decide) d_Tape_isFigure_17 ⟨0, rfl, ⟨rfl, (by (try rw [show Int32.toInt 0 = 0 from rfl]) <;> omega)⟩⟩
    ·
      refine V_iconst 1 d_Tape_isFigure_12 (by decide) ?_
      refine V_goto 17 d_Tape_isFigure_13 (by decide) ?_
      exact V_zret rfl (by decide) d_Tape_isFigure_17 ⟨1, rfl, ⟨rfl, (by (try rw [show Int32.toInt 1 = 1 from rfl]) <;> omega)⟩⟩
def S_Tape_passLettersX : List (Nat × Option Nat) := [(89, some 4)]
abbrev q_Tape_passLettersX (h : Hp) (b : Int → Int) (s : Int32) (sZ : Int) (t : Int32) (tZ : Int) : Option Value → Hp → Prop := pVd (fun h' => Inv h' ∧ fr S_Tape_passLettersX h h' ∧ ∃ (u : Int32) (uZ : Int), u.toInt = uZ ∧ h'.1 89 4 = u ∧ (uZ = rn leB b tZ ∧ tZ ≤ uZ ∧ uZ ≤ sZ))
set_option maxRecDepth 100000 in
theorem c_Tape_passLettersX (h : Hp) (b : Int → Int) (hI : Inv h) (s : Int32) (sZ : Int) (sE : s.toInt = sZ) (sK : h.1 89 1 = s) (t : Int32) (tZ : Int) (tE : t.toInt = tZ) (tK : h.1 89 4 = t) (hy0 : TP h 90 sZ b) (hy1 : tZ ≤ sZ) : Ct y_Tape_passLetters b_Tape_passLetters 1 none 1 20 [.ref 89] h (q_Tape_passLettersX h b s sZ t tZ) := by
  refine ct_ow R_Tape [some (.ref 89)] rfl (by decide) rfl (Nat.le_of_ble_eq_true rfl) ?_
  have f0 : fr S_Tape_passLettersX h h := fr_rf
  have g1 : 0 ≤ sZ ∧ sZ ≤ 160 := inv_at hI sE sK.symm rfl
  have g2 : 0 ≤ tZ ∧ tZ ≤ 160 := inv_at hI tE tK.symm rfl
  have L3 : ∀ (nn : Nat) (h5 : Hp) (v7 : Int32) (v7Z : Int), Inv h5 → fr S_Tape_passLettersX h h5 → h5.1 89 1 = s → v7.toInt = v7Z → h5.1 89 4 = v7 → tZ ≤ v7Z ∧ v7Z ≤ sZ → rn leB b v7Z = rn leB b tZ → 160 - v7Z < (nn : Int) → V R_Tape b_Tape_passLetters 1 none 1 20 (q_Tape_passLettersX h b s sZ t tZ) h5 0 [some (.ref 89)] [] := by
    intro nn
    induction nn with
    | zero => intro h5 v7 v7Z Ih5 Fh5 K6 v7E K8 q9 q10 hm11; exact absurd hm11 (by (first | decide +kernel | omega))
    | succ nn ihL3 =>
      intro h5 v7 v7Z Ih5 Fh5 K6 v7E K8 q9 q10 hm11
      have g12 : 0 ≤ v7Z ∧ v7Z ≤ 160 := inv_at Ih5 v7E K8.symm rfl
      have g13 := TP_b hy0 v7Z (by (first | decide +kernel | omega))
      refine V_aload_n 0 d_Tape_passLetters_0 rfl rfl ?_
      refine N_getK fa_Tape_15 sk_89 rfl d_Tape_passLetters_1 K8 ?_
      refine V_aload_n 0 d_Tape_passLetters_4 rfl rfl ?_
      refine N_getK fa_Tape_22 sk_89 rfl d_Tape_passLetters_5 K6 ?_
      refine V_icmp_ge 39 v7E sE d_Tape_passLetters_8 (by decide) (fun c14 => ?_) (fun c14 => ?_)
      ·
        have g15 := rn_stop (P := leB) (b := b) (p := v7Z) (leB_n (by (first | decide +kernel | omega)))
        exact V_vret rfl d_Tape_passLetters_39 ⟨rfl, ⟨Ih5, Fh5, v7, v7Z, v7E, K8, (by (first | decide +kernel | omega))⟩⟩
      ·
        refine V_aload_n 0 d_Tape_passLetters_11 rfl rfl ?_
        refine V_getR fa_Tape_9 sk_89 rfl d_Tape_passLetters_12 ?_
        refine V_aload_n 0 d_Tape_passLetters_15 rfl rfl ?_
        refine N_getK fa_Tape_15 sk_89 rfl d_Tape_passLetters_16 K8 ?_
        refine N_bald sk_90 v7E (by (first | decide +kernel | omega)) d_Tape_passLetters_19 (fun z16 z16Z z16E z16e => ?_)
        have g17 : z16Z = b v7Z := TP_rd (TP_fr Fh5 (fun _ => rfl) hy0) (by (first | decide +kernel | omega)) z16E z16e
        refine N_callSI [.int z16] [] cs_Tape_28 d_Tape_passLetters_20 rfl (Nat.le_of_ble_eq_true rfl) (by decide) (by decide) (c_Tape_isLetterX h5 z16 z16Z z16E) (fun z18 h19 z18Z z18E p20 => ?_)
        obtain ⟨eh19, p20⟩ := p20
        subst eh19
        refine V_if_eq 39 z18E d_Tape_passLetters_23 (by decide) (fun c21 => ?_) (fun c21 => ?_)
        ·
          have g22 := rn_stop (P := leB) (b := b) (p := v7Z) (leB_n (by (first | decide +kernel | omega)))
          exact V_vret rfl d_Tape_passLetters_39 ⟨rfl, ⟨Ih5, Fh5, v7, v7Z, v7E, K8, (by (first | decide +kernel | omega))⟩⟩
        ·
          have g23 := rn_step (P := leB) (b := b) (p := v7Z) (leB_y (by (first | decide +kernel | omega))) (by (first | decide +kernel | omega))
          refine V_aload_n 0 d_Tape_passLetters_26 rfl rfl ?_
          refine V_dup d_Tape_passLetters_27 rfl ?_
          refine N_getK fa_Tape_15 sk_89 rfl d_Tape_passLetters_28 K8 ?_
          refine V_iconst 1 d_Tape_passLetters_31 (by decide) ?_
          refine V_iadd v7E tc_1 (by (first | decide +kernel | omega)) d_Tape_passLetters_32 (fun z24 z24e z24E => ?_)
          refine N_putI fp_Tape_15 sk_89 rfl d_Tape_passLetters_33 (fun h25 eh25 => ?_)
          have hI26 : Inv h25 := inv_put (lo := 0) (hi := 160) Ih5 eh25 rfl z24E (by (first | decide +kernel | omega))
          have f27 : fr S_Tape_passLettersX h h25 := fr_put Fh5 eh25 rfl
          refine V_goto 0 d_Tape_passLetters_36 (by decide) ?_
          exact ihL3 h25 z24 ((v7Z + 1)) hI26 f27 (kn_nei eh25 K6 (by decide)) z24E (kn_put eh25) (by (first | decide +kernel | omega)) (by (first | decide +kernel | omega)) (by (first | decide +kernel | omega))
  exact L3 (Int.toNat ((160 - tZ : Int) + 1)) h t tZ hI f0 sK tE tK (by (first | decide +kernel | omega)) (by (first | decide +kernel | omega)) (by (first | decide +kernel | omega))
def S_Tape_passFiguresX : List (Nat × Option Nat) := [(89, some 4), (89, some 5)]
abbrev q_Tape_passFiguresX (h : Hp) (b : Int → Int) (s : Int32) (sZ : Int) (t : Int32) (tZ : Int) : Option Value → Hp → Prop := pVd (fun h' => Inv h' ∧ fr S_Tape_passFiguresX h h' ∧ ∃ (u : Int32) (uZ : Int), u.toInt = uZ ∧ h'.1 89 4 = u ∧ ∃ (v : Int32) (vZ : Int), v.toInt = vZ ∧ h'.1 89 5 = v ∧ (uZ = rn fiB b tZ ∧ tZ ≤ uZ ∧ uZ ≤ sZ ∧ (uZ - tZ = 0 ∨ uZ - tZ = 1 ∧ vZ = b tZ - 48 ∧ 0 ≤ vZ ∧ vZ ≤ 9 ∨ uZ - tZ = 2 ∧ vZ = 10 * (b tZ - 48) + (b (tZ + 1) - 48) ∧ 0 ≤ vZ ∧ vZ ≤ 99 ∨ 2 < uZ - tZ)))
set_option maxRecDepth 100000 in
theorem c_Tape_passFiguresX (h : Hp) (b : Int → Int) (hI : Inv h) (s : Int32) (sZ : Int) (sE : s.toInt = sZ) (sK : h.1 89 1 = s) (t : Int32) (tZ : Int) (tE : t.toInt = tZ) (tK : h.1 89 4 = t) (hy0 : TP h 90 sZ b) (hy1 : tZ ≤ sZ) : Ct y_Tape_passFigures b_Tape_passFigures 1 none 1 20 [.ref 89] h (q_Tape_passFiguresX h b s sZ t tZ) := by
  refine ct_ow R_Tape [some (.ref 89)] rfl (by decide) rfl (Nat.le_of_ble_eq_true rfl) ?_
  have f0 : fr S_Tape_passFiguresX h h := fr_rf
  have g1 : 0 ≤ sZ ∧ sZ ≤ 160 := inv_at hI sE sK.symm rfl
  have g2 : 0 ≤ tZ ∧ tZ ≤ 160 := inv_at hI tE tK.symm rfl
  refine V_aload_n 0 d_Tape_passFigures_0 rfl rfl ?_
  refine V_iconst 0 d_Tape_passFigures_1 (by decide) ?_
  refine N_putI fp_Tape_51 sk_89 rfl d_Tape_passFigures_2 (fun h3 eh3 => ?_)
  have hI4 : Inv h3 := inv_full hI eh3 rfl
  have f5 : fr S_Tape_passFiguresX h h3 := fr_put f0 eh3 rfl
  have L6 : ∀ (nn : Nat) (h8 : Hp) (v10 : Int32) (v10Z : Int) (v12 : Int32) (v12Z : Int), Inv h8 → fr S_Tape_passFiguresX h h8 → h8.1 89 1 = s → v10.toInt = v10Z → h8.1 89 4 = v10 → v12.toInt = v12Z → h8.1 89 5 = v12 → tZ ≤ v10Z ∧ v10Z ≤ sZ → rn fiB b v10Z = rn fiB b tZ → VFp b tZ v10Z v12Z → DFp b tZ v10Z → 160 - v10Z < (nn : Int) → V R_Tape b_Tape_passFigures 1 none 1 20 (q_Tape_passFiguresX h b s sZ t tZ) h8 5 [some (.ref 89)] [] := by
    intro nn
    induction nn with
    | zero => intro h8 v10 v10Z v12 v12Z Ih8 Fh8 K9 v10E K11 v12E K13 q14 q15 q16 q17 hm18; exact absurd hm18 (by (first | decide +kernel | omega))
    | succ nn ihL6 =>
      intro h8 v10 v10Z v12 v12Z Ih8 Fh8 K9 v10E K11 v12E K13 q14 q15 q16 q17 hm18
      have g19 : 0 ≤ v10Z ∧ v10Z ≤ 160 := inv_at Ih8 v10E K11.symm rfl
      have g20 := TP_b hy0 v10Z (by (first | decide +kernel | omega))
      refine V_aload_n 0 d_Tape_passFigures_5 rfl rfl ?_
      refine N_getK fa_Tape_15 sk_89 rfl d_Tape_passFigures_6 K11 ?_
      refine V_aload_n 0 d_Tape_passFigures_9 rfl rfl ?_
      refine N_getK fa_Tape_22 sk_89 rfl d_Tape_passFigures_10 K9 ?_
      refine V_icmp_ge 68 v10E sE d_Tape_passFigures_13 (by decide) (fun c21 => ?_) (fun c21 => ?_)
      ·
        have g22 := rn_stop (P := fiB) (b := b) (p := v10Z) (fiB_n (by (first | decide +kernel | omega)))
        exact V_vret rfl d_Tape_passFigures_68 ⟨rfl, ⟨Ih8, Fh8, v10, v10Z, v10E, K11, v12, v12Z, v12E, K13, ⟨by (first | decide +kernel | omega), by (first | decide +kernel | omega), by (first | decide +kernel | omega), VFp_e (by assumption) (by assumption)⟩⟩⟩
      ·
        refine V_aload_n 0 d_Tape_passFigures_16 rfl rfl ?_
        refine V_getR fa_Tape_9 sk_89 rfl d_Tape_passFigures_17 ?_
        refine V_aload_n 0 d_Tape_passFigures_20 rfl rfl ?_
        refine N_getK fa_Tape_15 sk_89 rfl d_Tape_passFigures_21 K11 ?_
        refine N_bald sk_90 v10E (by (first | decide +kernel | omega)) d_Tape_passFigures_24 (fun z23 z23Z z23E z23e => ?_)
        have g24 : z23Z = b v10Z := TP_rd (TP_fr Fh8 (fun _ => rfl) hy0) (by (first | decide +kernel | omega)) z23E z23e
        refine N_callSI [.int z23] [] cs_Tape_35 d_Tape_passFigures_25 rfl (Nat.le_of_ble_eq_true rfl) (by decide) (by decide) (c_Tape_isFigureX h8 z23 z23Z z23E) (fun z25 h26 z25Z z25E p27 => ?_)
        obtain ⟨eh26, p27⟩ := p27
        subst eh26
        refine V_if_eq 68 z25E d_Tape_passFigures_28 (by decide) (fun c28 => ?_) (fun c28 => ?_)
        ·
          have g29 := rn_stop (P := fiB) (b := b) (p := v10Z) (fiB_n (by (first | decide +kernel | omega)))
          exact V_vret rfl d_Tape_passFigures_68 ⟨rfl, ⟨Ih8, Fh8, v10, v10Z, v10E, K11, v12, v12Z, v12E, K13, ⟨by (first | decide +kernel | omega), by (first | decide +kernel | omega), by (first | decide +kernel | omega), VFp_e (by assumption) (by assumption)⟩⟩⟩
        ·
          have hf9 : 48 ≤ b v10Z ∧ b v10Z ≤ 57 := by (first | decide +kernel | omega)
          have g30 := rn_step (P := fiB) (b := b) (p := v10Z) (fiB_y hf9) (by (first | decide +kernel | omega))
          refine V_aload_n 0 d_Tape_passFigures_31 rfl rfl ?_
          refine V_bipush 10 d_Tape_passFigures_32 (by decide) ?_
          refine V_aload_n 0 d_Tape_passFigures_34 rfl rfl ?_
          refine N_getK fa_Tape_51 sk_89 rfl d_Tape_passFigures_35 K13 ?_
          refine N_imulw d_Tape_passFigures_38 (fun z31 z31Z z31E z31e => ?_)
          have hw1 := wr_mul tc_10 v12E z31e z31E
          refine V_aload_n 0 d_Tape_passFigures_39 rfl rfl ?_
          refine V_getR fa_Tape_9 sk_89 rfl d_Tape_passFigures_40 ?_
          refine V_aload_n 0 d_Tape_passFigures_43 rfl rfl ?_
          refine N_getK fa_Tape_15 sk_89 rfl d_Tape_passFigures_44 K11 ?_
          refine N_bald sk_90 v10E (by (first | decide +kernel | omega)) d_Tape_passFigures_47 (fun z33 z33Z z33E z33e => ?_)
          have hx9 : z33Z = b v10Z := TP_rd (TP_fr Fh8 (fun _ => rfl) hy0) (by (first | decide +kernel | omega)) z33E z33e
          refine N_iaddw d_Tape_passFigures_48 (fun z35 z35Z z35E z35e => ?_)
          have hw2 := wr_add z31E z33E z35e z35E
          refine V_bipush 48 d_Tape_passFigures_49 (by decide) ?_
          refine N_isubw d_Tape_passFigures_51 (fun z37 z37Z z37E z37e => ?_)
          have hw3 := wr_sub z35E tc_48 z37e z37E
          refine N_putI fp_Tape_51 sk_89 rfl d_Tape_passFigures_52 (fun h39 eh39 => ?_)
          have hI40 : Inv h39 := inv_full Ih8 eh39 rfl
          have f41 : fr S_Tape_passFiguresX h h39 := fr_put Fh8 eh39 rfl
          refine V_aload_n 0 d_Tape_passFigures_55 rfl rfl ?_
          refine V_dup d_Tape_passFigures_56 rfl ?_
          refine N_getK fa_Tape_15 sk_89 rfl d_Tape_passFigures_57 (kn_nei eh39 K11 (by decide)) ?_
          refine V_iconst 1 d_Tape_passFigures_60 (by decide) ?_
          refine V_iadd v10E tc_1 (by (first | decide +kernel | omega)) d_Tape_passFigures_61 (fun z42 z42e z42E => ?_)
          refine N_putI fp_Tape_15 sk_89 rfl d_Tape_passFigures_62 (fun h43 eh43 => ?_)
          have hI44 : Inv h43 := inv_put (lo := 0) (hi := 160) hI40 eh43 rfl z42E (by (first | decide +kernel | omega))
          have f45 : fr S_Tape_passFiguresX h h43 := fr_put f41 eh43 rfl
          refine V_goto 5 d_Tape_passFigures_65 (by decide) ?_
          exact ihL6 h43 z42 ((v10Z + 1)) z37 z37Z hI44 f45 (kn_nei eh43 (kn_nei eh39 K9 (by decide)) (by decide)) z42E (kn_put eh43) z37E (kn_nei eh43 (kn_put eh39) (by decide)) (by (first | decide +kernel | omega)) (by (first | decide +kernel | omega)) (VFp_s (by assumption) (by assumption) hf9 hx9 hw1 hw2 hw3) (DFp_s (by assumption) (by (first | decide +kernel | omega)) hf9) (by (first | decide +kernel | omega))
  exact L6 (Int.toNat ((160 - tZ : Int) + 1)) h3 t tZ 0 0 hI4 f5 (kn_nei eh3 sK (by decide)) tE (kn_nei eh3 tK (by decide)) tc_0 (kn_put eh3) (by (first | decide +kernel | omega)) (by (first | decide +kernel | omega)) VFp_0 DFp_0 (by (first | decide +kernel | omega))
def S_Tape_advanceX : List (Nat × Option Nat) := [(89, some 2), (89, some 3), (89, some 4), (89, some 5)]
abbrev q_Tape_advanceX (h : Hp) (b : Int → Int) (s : Int32) (sZ : Int) (t : Int32) (tZ : Int) : Option Value → Hp → Prop := pVd (fun h' => Inv h' ∧ fr S_Tape_advanceX h h' ∧ ∃ (k : Int32) (kZ : Int), k.toInt = kZ ∧ h'.1 89 2 = k ∧ ∃ (f : Int32) (fZ : Int), f.toInt = fZ ∧ h'.1 89 3 = f ∧ ∃ (u : Int32) (uZ : Int), u.toInt = uZ ∧ h'.1 89 4 = u ∧ ∃ (v : Int32) (vZ : Int), v.toInt = vZ ∧ h'.1 89 5 = v ∧ (fZ = x_fr b tZ ∧ kZ = x_kd b tZ ∧ (kZ = 4 ∨ uZ = x_en b tZ) ∧ (kZ ≠ 2 ∨ vZ = x_vl b tZ ∧ 0 ≤ vZ ∧ vZ ≤ 99) ∧ tZ ≤ fZ ∧ fZ ≤ uZ ∧ uZ ≤ sZ ∧ (kZ = 0 ∧ fZ = sZ ∨ kZ ≠ 0 ∧ fZ < sZ) ∧ 0 ≤ kZ ∧ kZ ≤ 4 ∧ (kZ = 0 ∨ kZ = 4 ∨ fZ < uZ)))
set_option maxRecDepth 100000 in
theorem c_Tape_advanceX (h : Hp) (b : Int → Int) (hI : Inv h) (s : Int32) (sZ : Int) (sE : s.toInt = sZ) (sK : h.1 89 1 = s) (t : Int32) (tZ : Int) (tE : t.toInt = tZ) (tK : h.1 89 4 = t) (hy0 : TP h 90 sZ b) (hy1 : tZ ≤ sZ) : Ct y_Tape_advance b_Tape_advance 1 none 2 40 [.ref 89] h (q_Tape_advanceX h b s sZ t tZ) := by
  refine ct_ow R_Tape [some (.ref 89)] rfl (by decide) rfl (Nat.le_of_ble_eq_true rfl) ?_
  have f0 : fr S_Tape_advanceX h h := fr_rf
  have g1 : 0 ≤ sZ ∧ sZ ≤ 160 := inv_at hI sE sK.symm rfl
  have g2 : 0 ≤ tZ ∧ tZ ≤ 160 := inv_at hI tE tK.symm rfl
  refine V_aload_n 0 d_Tape_advance_0 rfl rfl ?_
  refine V_aload_n 0 d_Tape_advance_1 rfl rfl ?_
  refine N_getK fa_Tape_15 sk_89 rfl d_Tape_advance_2 tK ?_
  refine N_putI fp_Tape_19 sk_89 rfl d_Tape_advance_5 (fun h3 eh3 => ?_)
  have hI4 : Inv h3 := inv_put (lo := 0) (hi := 160) hI eh3 rfl tE (by (first | decide +kernel | omega))
  have f5 : fr S_Tape_advanceX h h3 := fr_put f0 eh3 rfl
  have L6 : ∀ (nn : Nat) (h8 : Hp) (v11 : Int32) (v11Z : Int), Inv h8 → fr S_Tape_advanceX h h8 → h8.1 89 1 = s → h8.1 89 4 = t → v11.toInt = v11Z → h8.1 89 3 = v11 → tZ ≤ v11Z ∧ v11Z ≤ sZ → rn blB b v11Z = rn blB b tZ → 160 - v11Z < (nn : Int) → V R_Tape b_Tape_advance 1 none 2 40 (q_Tape_advanceX h b s sZ t tZ) h8 8 [some (.ref 89)] [] := by
    intro nn
    induction nn with
    | zero => intro h8 v11 v11Z Ih8 Fh8 K9 K10 v11E K12 q13 q14 hm15; exact absurd hm15 (by (first | decide +kernel | omega))
    | succ nn ihL6 =>
      intro h8 v11 v11Z Ih8 Fh8 K9 K10 v11E K12 q13 q14 hm15
      have g16 : 0 ≤ v11Z ∧ v11Z ≤ 160 := inv_at Ih8 v11E K12.symm rfl
      have g17 := TP_b hy0 v11Z (by (first | decide +kernel | omega))
      refine V_aload_n 0 d_Tape_advance_8 rfl rfl ?_
      refine N_getK fa_Tape_19 sk_89 rfl d_Tape_advance_9 K12 ?_
      refine V_aload_n 0 d_Tape_advance_12 rfl rfl ?_
      refine N_getK fa_Tape_22 sk_89 rfl d_Tape_advance_13 K9 ?_
      refine V_icmp_ge 46 v11E sE d_Tape_advance_16 (by decide) (fun c18 => ?_) (fun c18 => ?_)
      ·
        have g19 := rn_stop (P := blB) (b := b) (p := v11Z) (blB_n (by (first | decide +kernel | omega)))
        refine V_aload_n 0 d_Tape_advance_46 rfl rfl ?_
        refine V_aload_n 0 d_Tape_advance_47 rfl rfl ?_
        refine N_getK fa_Tape_19 sk_89 rfl d_Tape_advance_48 K12 ?_
        refine N_putI fp_Tape_15 sk_89 rfl d_Tape_advance_51 (fun h20 eh20 => ?_)
        have hI21 : Inv h20 := inv_put (lo := 0) (hi := 160) Ih8 eh20 rfl v11E (by (first | decide +kernel | omega))
        have f22 : fr S_Tape_advanceX h h20 := fr_put Fh8 eh20 rfl
        refine V_aload_n 0 d_Tape_advance_54 rfl rfl ?_
        refine N_getK fa_Tape_19 sk_89 rfl d_Tape_advance_55 (kn_nei eh20 K12 (by decide)) ?_
        refine V_aload_n 0 d_Tape_advance_58 rfl rfl ?_
        refine N_getK fa_Tape_22 sk_89 rfl d_Tape_advance_59 (kn_nei eh20 K9 (by decide)) ?_
        refine V_icmp_lt 73 v11E sE d_Tape_advance_62 (by decide) (fun c23 => ?_) (fun c23 => ?_)
        ·
          refine V_aload_n 0 d_Tape_advance_73 rfl rfl ?_
          refine V_getR fa_Tape_9 sk_89 rfl d_Tape_advance_74 ?_
          refine V_aload_n 0 d_Tape_advance_77 rfl rfl ?_
          refine N_getK fa_Tape_19 sk_89 rfl d_Tape_advance_78 (kn_nei eh20 K12 (by decide)) ?_
          refine N_bald sk_90 v11E (by (first | decide +kernel | omega)) d_Tape_advance_81 (fun z24 z24Z z24E z24e => ?_)
          have g25 : z24Z = b v11Z := TP_rd (TP_fr f22 (fun _ => rfl) hy0) (by (first | decide +kernel | omega)) z24E z24e
          refine V_bipush 59 d_Tape_advance_82 (by decide) ?_
          refine V_icmp_ne 105 z24E tc_59 d_Tape_advance_84 (by decide) (fun c26 => ?_) (fun c26 => ?_)
          ·
            refine V_aload_n 0 d_Tape_advance_105 rfl rfl ?_
            refine V_getR fa_Tape_9 sk_89 rfl d_Tape_advance_106 ?_
            refine V_aload_n 0 d_Tape_advance_109 rfl rfl ?_
            refine N_getK fa_Tape_19 sk_89 rfl d_Tape_advance_110 (kn_nei eh20 K12 (by decide)) ?_
            refine N_bald sk_90 v11E (by (first | decide +kernel | omega)) d_Tape_advance_113 (fun z27 z27Z z27E z27e => ?_)
            have g28 : z27Z = b v11Z := TP_rd (TP_fr f22 (fun _ => rfl) hy0) (by (first | decide +kernel | omega)) z27E z27e
            refine N_callSI [.int z27] [] cs_Tape_28 d_Tape_advance_114 rfl (Nat.le_of_ble_eq_true rfl) (by decide) (by decide) (c_Tape_isLetterX h20 z27 z27Z z27E) (fun z29 h30 z29Z z29E p31 => ?_)
            obtain ⟨eh30, p31⟩ := p31
            subst eh30
            refine V_if_eq 132 z29E d_Tape_advance_117 (by decide) (fun c32 => ?_) (fun c32 => ?_)
            ·
              refine V_aload_n 0 d_Tape_advance_132 rfl rfl ?_
              refine V_getR fa_Tape_9 sk_89 rfl d_Tape_advance_133 ?_
              refine V_aload_n 0 d_Tape_advance_136 rfl rfl ?_
              refine N_getK fa_Tape_19 sk_89 rfl d_Tape_advance_137 (kn_nei eh20 K12 (by decide)) ?_
              refine N_bald sk_90 v11E (by (first | decide +kernel | omega)) d_Tape_advance_140 (fun z33 z33Z z33E z33e => ?_)
              have g34 : z33Z = b v11Z := TP_rd (TP_fr f22 (fun _ => rfl) hy0) (by (first | decide +kernel | omega)) z33E z33e
              refine N_callSI [.int z33] [] cs_Tape_35 d_Tape_advance_141 rfl (Nat.le_of_ble_eq_true rfl) (by decide) (by decide) (c_Tape_isFigureX h20 z33 z33Z z33E) (fun z35 h36 z35Z z35E p37 => ?_)
              obtain ⟨eh36, p37⟩ := p37
              subst eh36
              refine V_if_eq 176 z35E d_Tape_advance_144 (by decide) (fun c38 => ?_) (fun c38 => ?_)
              ·
                have g39 := tok_4 (p := tZ) (show v11Z = x_fr b tZ by unfold x_fr; omega) (by (first | decide +kernel | omega))
                have g40 : v11Z = x_fr b tZ := by unfold x_fr; omega
                refine V_aload_n 0 d_Tape_advance_176 rfl rfl ?_
                refine V_iconst 4 d_Tape_advance_177 (by decide) ?_
                refine N_putI fp_Tape_25 sk_89 rfl d_Tape_advance_178 (fun h41 eh41 => ?_)
                have hI42 : Inv h41 := inv_full hI21 eh41 rfl
                have f43 : fr S_Tape_advanceX h h41 := fr_put f22 eh41 rfl
                obtain ⟨z44, z44Z, z44E, z44e⟩ : ∃ (y : Int32) (Y : Int), y.toInt = Y ∧ y = h41.1 89 5 := ⟨_, _, rfl, rfl⟩
                exact V_vret rfl d_Tape_advance_181 ⟨rfl, ⟨hI42, f43, 4, 4, tc_4, (kn_put eh41), v11, v11Z, v11E, (kn_nei eh41 (kn_nei eh20 K12 (by decide)) (by decide)), v11, v11Z, v11E, (kn_nei eh41 (kn_put eh20) (by decide)), z44, z44Z, z44E, z44e.symm, (by (first | decide +kernel | omega))⟩⟩
              ·
                refine V_aload_n 0 d_Tape_advance_147 rfl rfl ?_
                refine N_callVV [] [] cv_Tape_38 sk_89 rfl d_Tape_advance_148 rfl (Nat.le_of_ble_eq_true rfl) (by decide) (by decide) (c_Tape_passFiguresX h20 b hI21 s sZ sE (kn_nei eh20 K9 (by decide)) v11 v11Z v11E (kn_put eh20) (TP_fr f22 (fun _ => rfl) hy0) (by (first | decide +kernel | omega))) (fun h46 p47 => ?_)
                obtain ⟨hI48, fh46, o50, o50Z, o50E, o50K, o51, o51Z, o51E, o51K, p47⟩ := p47
                have f49 : fr S_Tape_advanceX h h46 := fr_call f22 fh46 rfl
                have g52 : 0 ≤ o50Z ∧ o50Z ≤ 160 := inv_at hI48 o50E o50K.symm rfl
                have g53 := tok_2 (p := tZ) (u := o50Z) (show v11Z = x_fr b tZ by unfold x_fr; omega) (by (first | decide +kernel | omega)) (by (first | decide +kernel | omega))
                have g54 : v11Z = x_fr b tZ := by unfold x_fr; omega
                have g55 := rn_step (P := fiB) (b := b) (p := v11Z) (fiB_y (by (first | decide +kernel | omega))) (by (first | decide +kernel | omega))
                have g56 := rn_ge (P := fiB) (b := b) (v11Z + 1)
                refine V_aload_n 0 d_Tape_advance_151 rfl rfl ?_
                refine V_aload_n 0 d_Tape_advance_152 rfl rfl ?_
                refine N_getK fa_Tape_15 sk_89 rfl d_Tape_advance_153 o50K ?_
                refine V_aload_n 0 d_Tape_advance_156 rfl rfl ?_
                refine N_getK fa_Tape_19 sk_89 rfl d_Tape_advance_157 (kn_call fh46 (kn_nei eh20 K12 (by decide)) rfl) ?_
                refine V_isub o50E v11E (by (first | decide +kernel | omega)) d_Tape_advance_160 (fun z57 z57e z57E => ?_)
                refine V_iconst 2 d_Tape_advance_161 (by decide) ?_
                refine V_icmp_le 169 z57E tc_2 d_Tape_advance_162 (by decide) (fun c58 => ?_) (fun c58 => ?_)
                ·
                  have g59 := tok_v (p := tZ) (u := o50Z) (v := o51Z) (show v11Z = x_fr b tZ by unfold x_fr; omega) (by (first | decide +kernel | omega)) (by (first | decide +kernel | omega))
                  refine V_iconst 2 d_Tape_advance_169 (by decide) ?_
                  refine N_putI fp_Tape_25 sk_89 rfl d_Tape_advance_170 (fun h60 eh60 => ?_)
                  have hI61 : Inv h60 := inv_full hI48 eh60 rfl
                  have f62 : fr S_Tape_advanceX h h60 := fr_put f49 eh60 rfl
                  refine V_goto 181 d_Tape_advance_173 (by decide) ?_
                  exact V_vret rfl d_Tape_advance_181 ⟨rfl, ⟨hI61, f62, 2, 2, tc_2, (kn_put eh60), v11, v11Z, v11E, (kn_nei eh60 (kn_call fh46 (kn_nei eh20 K12 (by decide)) rfl) (by decide)), o50, o50Z, o50E, (kn_nei eh60 o50K (by decide)), o51, o51Z, o51E, (kn_nei eh60 o51K (by decide)), (by (first | decide +kernel | omega))⟩⟩
                ·
                  refine V_iconst 4 d_Tape_advance_165 (by decide) ?_
                  refine V_goto 170 d_Tape_advance_166 (by decide) ?_
                  refine N_putI fp_Tape_25 sk_89 rfl d_Tape_advance_170 (fun h63 eh63 => ?_)
                  have hI64 : Inv h63 := inv_full hI48 eh63 rfl
                  have f65 : fr S_Tape_advanceX h h63 := fr_put f49 eh63 rfl
                  refine V_goto 181 d_Tape_advance_173 (by decide) ?_
                  exact V_vret rfl d_Tape_advance_181 ⟨rfl, ⟨hI64, f65, 4, 4, tc_4, (kn_put eh63), v11, v11Z, v11E, (kn_nei eh63 (kn_call fh46 (kn_nei eh20 K12 (by decide)) rfl) (by decide)), o50, o50Z, o50E, (kn_nei eh63 o50K (by decide)), o51, o51Z, o51E, (kn_nei eh63 o51K (by decide)), (by (first | decide +kernel | omega))⟩⟩
            ·
              refine V_aload_n 0 d_Tape_advance_120 rfl rfl ?_
              refine V_iconst 1 d_Tape_advance_121 (by decide) ?_
              refine N_putI fp_Tape_25 sk_89 rfl d_Tape_advance_122 (fun h66 eh66 => ?_)
              have hI67 : Inv h66 := inv_full hI21 eh66 rfl
              have f68 : fr S_Tape_advanceX h h66 := fr_put f22 eh66 rfl
              refine V_aload_n 0 d_Tape_advance_125 rfl rfl ?_
              refine N_callVV [] [] cv_Tape_32 sk_89 rfl d_Tape_advance_126 rfl (Nat.le_of_ble_eq_true rfl) (by decide) (by decide) (c_Tape_passLettersX h66 b hI67 s sZ sE (kn_nei eh66 (kn_nei eh20 K9 (by decide)) (by decide)) v11 v11Z v11E (kn_nei eh66 (kn_put eh20) (by decide)) (TP_fr f68 (fun _ => rfl) hy0) (by (first | decide +kernel | omega))) (fun h70 p71 => ?_)
              obtain ⟨hI72, fh70, o74, o74Z, o74E, o74K, p71⟩ := p71
              have f73 : fr S_Tape_advanceX h h70 := fr_call f68 fh70 rfl
              have g75 : 0 ≤ o74Z ∧ o74Z ≤ 160 := inv_at hI72 o74E o74K.symm rfl
              have g76 := tok_1 (p := tZ) (u := o74Z) (show v11Z = x_fr b tZ by unfold x_fr; omega) (by (first | decide +kernel | omega)) (by (first | decide +kernel | omega))
              have g77 : v11Z = x_fr b tZ := by unfold x_fr; omega
              have g78 := rn_step (P := leB) (b := b) (p := v11Z) (leB_y (by (first | decide +kernel | omega))) (by (first | decide +kernel | omega))
              have g79 := rn_ge (P := leB) (b := b) (v11Z + 1)
              refine V_goto 181 d_Tape_advance_129 (by decide) ?_
              obtain ⟨z80, z80Z, z80E, z80e⟩ : ∃ (y : Int32) (Y : Int), y.toInt = Y ∧ y = h70.1 89 5 := ⟨_, _, rfl, rfl⟩
              exact V_vret rfl d_Tape_advance_181 ⟨rfl, ⟨hI72, f73, 1, 1, tc_1, (kn_call fh70 (kn_put eh66) rfl), v11, v11Z, v11E, (kn_call fh70 (kn_nei eh66 (kn_nei eh20 K12 (by decide)) (by decide)) rfl), o74, o74Z, o74E, o74K, z80, z80Z, z80E, z80e.symm, (by (first | decide +kernel | omega))⟩⟩
          ·
            have g81 := tok_3 (p := tZ) (show v11Z = x_fr b tZ by unfold x_fr; omega) (by (first | decide +kernel | omega))
            have g82 : v11Z = x_fr b tZ := by unfold x_fr; omega
            refine V_aload_n 0 d_Tape_advance_87 rfl rfl ?_
            refine V_iconst 3 d_Tape_advance_88 (by decide) ?_
            refine N_putI fp_Tape_25 sk_89 rfl d_Tape_advance_89 (fun h83 eh83 => ?_)
            have hI84 : Inv h83 := inv_full hI21 eh83 rfl
            have f85 : fr S_Tape_advanceX h h83 := fr_put f22 eh83 rfl
            refine V_aload_n 0 d_Tape_advance_92 rfl rfl ?_
            refine V_aload_n 0 d_Tape_advance_93 rfl rfl ?_
            refine N_getK fa_Tape_19 sk_89 rfl d_Tape_advance_94 (kn_nei eh83 (kn_nei eh20 K12 (by decide)) (by decide)) ?_
            refine V_iconst 1 d_Tape_advance_97 (by decide) ?_
            refine V_iadd v11E tc_1 (by (first | decide +kernel | omega)) d_Tape_advance_98 (fun z86 z86e z86E => ?_)
            refine N_putI fp_Tape_15 sk_89 rfl d_Tape_advance_99 (fun h87 eh87 => ?_)
            have hI88 : Inv h87 := inv_put (lo := 0) (hi := 160) hI84 eh87 rfl z86E (by (first | decide +kernel | omega))
            have f89 : fr S_Tape_advanceX h h87 := fr_put f85 eh87 rfl
            refine V_goto 181 d_Tape_advance_102 (by decide) ?_
            obtain ⟨z90, z90Z, z90E, z90e⟩ : ∃ (y : Int32) (Y : Int), y.toInt = Y ∧ y = h87.1 89 5 := ⟨_, _, rfl, rfl⟩
            exact V_vret rfl d_Tape_advance_181 ⟨rfl, ⟨hI88, f89, 3, 3, tc_3, (kn_nei eh87 (kn_put eh83) (by decide)), v11, v11Z, v11E, (kn_nei eh87 (kn_nei eh83 (kn_nei eh20 K12 (by decide)) (by decide)) (by decide)), z86, (v11Z + 1), z86E, (kn_put eh87), z90, z90Z, z90E, z90e.symm, (by (first | decide +kernel | omega))⟩⟩
        ·
          have g91 := tok_0 (p := tZ) (show v11Z = x_fr b tZ by unfold x_fr; omega) (by (first | decide +kernel | omega))
          have g92 : v11Z = x_fr b tZ := by unfold x_fr; omega
          refine V_aload_n 0 d_Tape_advance_65 rfl rfl ?_
          refine V_iconst 0 d_Tape_advance_66 (by decide) ?_
          refine N_putI fp_Tape_25 sk_89 rfl d_Tape_advance_67 (fun h93 eh93 => ?_)
          have hI94 : Inv h93 := inv_full hI21 eh93 rfl
          have f95 : fr S_Tape_advanceX h h93 := fr_put f22 eh93 rfl
          refine V_goto 181 d_Tape_advance_70 (by decide) ?_
          obtain ⟨z96, z96Z, z96E, z96e⟩ : ∃ (y : Int32) (Y : Int), y.toInt = Y ∧ y = h93.1 89 5 := ⟨_, _, rfl, rfl⟩
          exact V_vret rfl d_Tape_advance_181 ⟨rfl, ⟨hI94, f95, 0, 0, tc_0, (kn_put eh93), v11, v11Z, v11E, (kn_nei eh93 (kn_nei eh20 K12 (by decide)) (by decide)), v11, v11Z, v11E, (kn_nei eh93 (kn_put eh20) (by decide)), z96, z96Z, z96E, z96e.symm, (by (first | decide +kernel | omega))⟩⟩
      ·
        refine V_aload_n 0 d_Tape_advance_19 rfl rfl ?_
        refine V_getR fa_Tape_9 sk_89 rfl d_Tape_advance_20 ?_
        refine V_aload_n 0 d_Tape_advance_23 rfl rfl ?_
        refine N_getK fa_Tape_19 sk_89 rfl d_Tape_advance_24 K12 ?_
        refine N_bald sk_90 v11E (by (first | decide +kernel | omega)) d_Tape_advance_27 (fun z97 z97Z z97E z97e => ?_)
        have g98 : z97Z = b v11Z := TP_rd (TP_fr Fh8 (fun _ => rfl) hy0) (by (first | decide +kernel | omega)) z97E z97e
        refine V_bipush 32 d_Tape_advance_28 (by decide) ?_
        refine V_icmp_ne 46 z97E tc_32 d_Tape_advance_30 (by decide) (fun c99 => ?_) (fun c99 => ?_)
        ·
          have g100 := rn_stop (P := blB) (b := b) (p := v11Z) (blB_n (by (first | decide +kernel | omega)))
          refine V_aload_n 0 d_Tape_advance_46 rfl rfl ?_
          refine V_aload_n 0 d_Tape_advance_47 rfl rfl ?_
          refine N_getK fa_Tape_19 sk_89 rfl d_Tape_advance_48 K12 ?_
          refine N_putI fp_Tape_15 sk_89 rfl d_Tape_advance_51 (fun h101 eh101 => ?_)
          have hI102 : Inv h101 := inv_put (lo := 0) (hi := 160) Ih8 eh101 rfl v11E (by (first | decide +kernel | omega))
          have f103 : fr S_Tape_advanceX h h101 := fr_put Fh8 eh101 rfl
          refine V_aload_n 0 d_Tape_advance_54 rfl rfl ?_
          refine N_getK fa_Tape_19 sk_89 rfl d_Tape_advance_55 (kn_nei eh101 K12 (by decide)) ?_
          refine V_aload_n 0 d_Tape_advance_58 rfl rfl ?_
          refine N_getK fa_Tape_22 sk_89 rfl d_Tape_advance_59 (kn_nei eh101 K9 (by decide)) ?_
          refine V_icmp_lt 73 v11E sE d_Tape_advance_62 (by decide) (fun c104 => ?_) (fun c104 => ?_)
          ·
            refine V_aload_n 0 d_Tape_advance_73 rfl rfl ?_
            refine V_getR fa_Tape_9 sk_89 rfl d_Tape_advance_74 ?_
            refine V_aload_n 0 d_Tape_advance_77 rfl rfl ?_
            refine N_getK fa_Tape_19 sk_89 rfl d_Tape_advance_78 (kn_nei eh101 K12 (by decide)) ?_
            refine N_bald sk_90 v11E (by (first | decide +kernel | omega)) d_Tape_advance_81 (fun z105 z105Z z105E z105e => ?_)
            have g106 : z105Z = b v11Z := TP_rd (TP_fr f103 (fun _ => rfl) hy0) (by (first | decide +kernel | omega)) z105E z105e
            refine V_bipush 59 d_Tape_advance_82 (by decide) ?_
            refine V_icmp_ne 105 z105E tc_59 d_Tape_advance_84 (by decide) (fun c107 => ?_) (fun c107 => ?_)
            ·
              refine V_aload_n 0 d_Tape_advance_105 rfl rfl ?_
              refine V_getR fa_Tape_9 sk_89 rfl d_Tape_advance_106 ?_
              refine V_aload_n 0 d_Tape_advance_109 rfl rfl ?_
              refine N_getK fa_Tape_19 sk_89 rfl d_Tape_advance_110 (kn_nei eh101 K12 (by decide)) ?_
              refine N_bald sk_90 v11E (by (first | decide +kernel | omega)) d_Tape_advance_113 (fun z108 z108Z z108E z108e => ?_)
              have g109 : z108Z = b v11Z := TP_rd (TP_fr f103 (fun _ => rfl) hy0) (by (first | decide +kernel | omega)) z108E z108e
              refine N_callSI [.int z108] [] cs_Tape_28 d_Tape_advance_114 rfl (Nat.le_of_ble_eq_true rfl) (by decide) (by decide) (c_Tape_isLetterX h101 z108 z108Z z108E) (fun z110 h111 z110Z z110E p112 => ?_)
              obtain ⟨eh111, p112⟩ := p112
              subst eh111
              refine V_if_eq 132 z110E d_Tape_advance_117 (by decide) (fun c113 => ?_) (fun c113 => ?_)
              ·
                refine V_aload_n 0 d_Tape_advance_132 rfl rfl ?_
                refine V_getR fa_Tape_9 sk_89 rfl d_Tape_advance_133 ?_
                refine V_aload_n 0 d_Tape_advance_136 rfl rfl ?_
                refine N_getK fa_Tape_19 sk_89 rfl d_Tape_advance_137 (kn_nei eh101 K12 (by decide)) ?_
                refine N_bald sk_90 v11E (by (first | decide +kernel | omega)) d_Tape_advance_140 (fun z114 z114Z z114E z114e => ?_)
                have g115 : z114Z = b v11Z := TP_rd (TP_fr f103 (fun _ => rfl) hy0) (by (first | decide +kernel | omega)) z114E z114e
                refine N_callSI [.int z114] [] cs_Tape_35 d_Tape_advance_141 rfl (Nat.le_of_ble_eq_true rfl) (by decide) (by decide) (c_Tape_isFigureX h101 z114 z114Z z114E) (fun z116 h117 z116Z z116E p118 => ?_)
                obtain ⟨eh117, p118⟩ := p118
                subst eh117
                refine V_if_eq 176 z116E d_Tape_advance_144 (by decide) (fun c119 => ?_) (fun c119 => ?_)
                ·
                  have g120 := tok_4 (p := tZ) (show v11Z = x_fr b tZ by unfold x_fr; omega) (by (first | decide +kernel | omega))
                  have g121 : v11Z = x_fr b tZ := by unfold x_fr; omega
                  refine V_aload_n 0 d_Tape_advance_176 rfl rfl ?_
                  refine V_iconst 4 d_Tape_advance_177 (by decide) ?_
                  refine N_putI fp_Tape_25 sk_89 rfl d_Tape_advance_178 (fun h122 eh122 => ?_)
                  have hI123 : Inv h122 := inv_full hI102 eh122 rfl
                  have f124 : fr S_Tape_advanceX h h122 := fr_put f103 eh122 rfl
                  obtain ⟨z125, z125Z, z125E, z125e⟩ : ∃ (y : Int32) (Y : Int), y.toInt = Y ∧ y = h122.1 89 5 := ⟨_, _, rfl, rfl⟩
                  exact V_vret rfl d_Tape_advance_181 ⟨rfl, ⟨hI123, f124, 4, 4, tc_4, (kn_put eh122), v11, v11Z, v11E, (kn_nei eh122 (kn_nei eh101 K12 (by decide)) (by decide)), v11, v11Z, v11E, (kn_nei eh122 (kn_put eh101) (by decide)), z125, z125Z, z125E, z125e.symm, (by (first | decide +kernel | omega))⟩⟩
                ·
                  refine V_aload_n 0 d_Tape_advance_147 rfl rfl ?_
                  refine N_callVV [] [] cv_Tape_38 sk_89 rfl d_Tape_advance_148 rfl (Nat.le_of_ble_eq_true rfl) (by decide) (by decide) (c_Tape_passFiguresX h101 b hI102 s sZ sE (kn_nei eh101 K9 (by decide)) v11 v11Z v11E (kn_put eh101) (TP_fr f103 (fun _ => rfl) hy0) (by (first | decide +kernel | omega))) (fun h127 p128 => ?_)
                  obtain ⟨hI129, fh127, o131, o131Z, o131E, o131K, o132, o132Z, o132E, o132K, p128⟩ := p128
                  have f130 : fr S_Tape_advanceX h h127 := fr_call f103 fh127 rfl
                  have g133 : 0 ≤ o131Z ∧ o131Z ≤ 160 := inv_at hI129 o131E o131K.symm rfl
                  have g134 := tok_2 (p := tZ) (u := o131Z) (show v11Z = x_fr b tZ by unfold x_fr; omega) (by (first | decide +kernel | omega)) (by (first | decide +kernel | omega))
                  have g135 : v11Z = x_fr b tZ := by unfold x_fr; omega
                  have g136 := rn_step (P := fiB) (b := b) (p := v11Z) (fiB_y (by (first | decide +kernel | omega))) (by (first | decide +kernel | omega))
                  have g137 := rn_ge (P := fiB) (b := b) (v11Z + 1)
                  refine V_aload_n 0 d_Tape_advance_151 rfl rfl ?_
                  refine V_aload_n 0 d_Tape_advance_152 rfl rfl ?_
                  refine N_getK fa_Tape_15 sk_89 rfl d_Tape_advance_153 o131K ?_
                  refine V_aload_n 0 d_Tape_advance_156 rfl rfl ?_
                  refine N_getK fa_Tape_19 sk_89 rfl d_Tape_advance_157 (kn_call fh127 (kn_nei eh101 K12 (by decide)) rfl) ?_
                  refine V_isub o131E v11E (by (first | decide +kernel | omega)) d_Tape_advance_160 (fun z138 z138e z138E => ?_)
                  refine V_iconst 2 d_Tape_advance_161 (by decide) ?_
                  refine V_icmp_le 169 z138E tc_2 d_Tape_advance_162 (by decide) (fun c139 => ?_) (fun c139 => ?_)
                  ·
                    have g140 := tok_v (p := tZ) (u := o131Z) (v := o132Z) (show v11Z = x_fr b tZ by unfold x_fr; omega) (by (first | decide +kernel | omega)) (by (first | decide +kernel | omega))
                    refine V_iconst 2 d_Tape_advance_169 (by decide) ?_
                    refine N_putI fp_Tape_25 sk_89 rfl d_Tape_advance_170 (fun h141 eh141 => ?_)
                    have hI142 : Inv h141 := inv_full hI129 eh141 rfl
                    have f143 : fr S_Tape_advanceX h h141 := fr_put f130 eh141 rfl
                    refine V_goto 181 d_Tape_advance_173 (by decide) ?_
                    exact V_vret rfl d_Tape_advance_181 ⟨rfl, ⟨hI142, f143, 2, 2, tc_2, (kn_put eh141), v11, v11Z, v11E, (kn_nei eh141 (kn_call fh127 (kn_nei eh101 K12 (by decide)) rfl) (by decide)), o131, o131Z, o131E, (kn_nei eh141 o131K (by decide)), o132, o132Z, o132E, (kn_nei eh141 o132K (by decide)), (by (first | decide +kernel | omega))⟩⟩
                  ·
                    refine V_iconst 4 d_Tape_advance_165 (by decide) ?_
                    refine V_goto 170 d_Tape_advance_166 (by decide) ?_
                    refine N_putI fp_Tape_25 sk_89 rfl d_Tape_advance_170 (fun h144 eh144 => ?_)
                    have hI145 : Inv h144 := inv_full hI129 eh144 rfl
                    have f146 : fr S_Tape_advanceX h h144 := fr_put f130 eh144 rfl
                    refine V_goto 181 d_Tape_advance_173 (by decide) ?_
                    exact V_vret rfl d_Tape_advance_181 ⟨rfl, ⟨hI145, f146, 4, 4, tc_4, (kn_put eh144), v11, v11Z, v11E, (kn_nei eh144 (kn_call fh127 (kn_nei eh101 K12 (by decide)) rfl) (by decide)), o131, o131Z, o131E, (kn_nei eh144 o131K (by decide)), o132, o132Z, o132E, (kn_nei eh144 o132K (by decide)), (by (first | decide +kernel | omega))⟩⟩
              ·
                refine V_aload_n 0 d_Tape_advance_120 rfl rfl ?_
                refine V_iconst 1 d_Tape_advance_121 (by decide) ?_
                refine N_putI fp_Tape_25 sk_89 rfl d_Tape_advance_122 (fun h147 eh147 => ?_)
                have hI148 : Inv h147 := inv_full hI102 eh147 rfl
                have f149 : fr S_Tape_advanceX h h147 := fr_put f103 eh147 rfl
                refine V_aload_n 0 d_Tape_advance_125 rfl rfl ?_
                refine N_callVV [] [] cv_Tape_32 sk_89 rfl d_Tape_advance_126 rfl (Nat.le_of_ble_eq_true rfl) (by decide) (by decide) (c_Tape_passLettersX h147 b hI148 s sZ sE (kn_nei eh147 (kn_nei eh101 K9 (by decide)) (by decide)) v11 v11Z v11E (kn_nei eh147 (kn_put eh101) (by decide)) (TP_fr f149 (fun _ => rfl) hy0) (by (first | decide +kernel | omega))) (fun h151 p152 => ?_)
                obtain ⟨hI153, fh151, o155, o155Z, o155E, o155K, p152⟩ := p152
                have f154 : fr S_Tape_advanceX h h151 := fr_call f149 fh151 rfl
                have g156 : 0 ≤ o155Z ∧ o155Z ≤ 160 := inv_at hI153 o155E o155K.symm rfl
                have g157 := tok_1 (p := tZ) (u := o155Z) (show v11Z = x_fr b tZ by unfold x_fr; omega) (by (first | decide +kernel | omega)) (by (first | decide +kernel | omega))
                have g158 : v11Z = x_fr b tZ := by unfold x_fr; omega
                have g159 := rn_step (P := leB) (b := b) (p := v11Z) (leB_y (by (first | decide +kernel | omega))) (by (first | decide +kernel | omega))
                have g160 := rn_ge (P := leB) (b := b) (v11Z + 1)
                refine V_goto 181 d_Tape_advance_129 (by decide) ?_
                obtain ⟨z161, z161Z, z161E, z161e⟩ : ∃ (y : Int32) (Y : Int), y.toInt = Y ∧ y = h151.1 89 5 := ⟨_, _, rfl, rfl⟩
                exact V_vret rfl d_Tape_advance_181 ⟨rfl, ⟨hI153, f154, 1, 1, tc_1, (kn_call fh151 (kn_put eh147) rfl), v11, v11Z, v11E, (kn_call fh151 (kn_nei eh147 (kn_nei eh101 K12 (by decide)) (by decide)) rfl), o155, o155Z, o155E, o155K, z161, z161Z, z161E, z161e.symm, (by (first | decide +kernel | omega))⟩⟩
            ·
              have g162 := tok_3 (p := tZ) (show v11Z = x_fr b tZ by unfold x_fr; omega) (by (first | decide +kernel | omega))
              have g163 : v11Z = x_fr b tZ := by unfold x_fr; omega
              refine V_aload_n 0 d_Tape_advance_87 rfl rfl ?_
              refine V_iconst 3 d_Tape_advance_88 (by decide) ?_
              refine N_putI fp_Tape_25 sk_89 rfl d_Tape_advance_89 (fun h164 eh164 => ?_)
              have hI165 : Inv h164 := inv_full hI102 eh164 rfl
              have f166 : fr S_Tape_advanceX h h164 := fr_put f103 eh164 rfl
              refine V_aload_n 0 d_Tape_advance_92 rfl rfl ?_
              refine V_aload_n 0 d_Tape_advance_93 rfl rfl ?_
              refine N_getK fa_Tape_19 sk_89 rfl d_Tape_advance_94 (kn_nei eh164 (kn_nei eh101 K12 (by decide)) (by decide)) ?_
              refine V_iconst 1 d_Tape_advance_97 (by decide) ?_
              refine V_iadd v11E tc_1 (by (first | decide +kernel | omega)) d_Tape_advance_98 (fun z167 z167e z167E => ?_)
              refine N_putI fp_Tape_15 sk_89 rfl d_Tape_advance_99 (fun h168 eh168 => ?_)
              have hI169 : Inv h168 := inv_put (lo := 0) (hi := 160) hI165 eh168 rfl z167E (by (first | decide +kernel | omega))
              have f170 : fr S_Tape_advanceX h h168 := fr_put f166 eh168 rfl
              refine V_goto 181 d_Tape_advance_102 (by decide) ?_
              obtain ⟨z171, z171Z, z171E, z171e⟩ : ∃ (y : Int32) (Y : Int), y.toInt = Y ∧ y = h168.1 89 5 := ⟨_, _, rfl, rfl⟩
              exact V_vret rfl d_Tape_advance_181 ⟨rfl, ⟨hI169, f170, 3, 3, tc_3, (kn_nei eh168 (kn_put eh164) (by decide)), v11, v11Z, v11E, (kn_nei eh168 (kn_nei eh164 (kn_nei eh101 K12 (by decide)) (by decide)) (by decide)), z167, (v11Z + 1), z167E, (kn_put eh168), z171, z171Z, z171E, z171e.symm, (by (first | decide +kernel | omega))⟩⟩
          ·
            have g172 := tok_0 (p := tZ) (show v11Z = x_fr b tZ by unfold x_fr; omega) (by (first | decide +kernel | omega))
            have g173 : v11Z = x_fr b tZ := by unfold x_fr; omega
            refine V_aload_n 0 d_Tape_advance_65 rfl rfl ?_
            refine V_iconst 0 d_Tape_advance_66 (by decide) ?_
            refine N_putI fp_Tape_25 sk_89 rfl d_Tape_advance_67 (fun h174 eh174 => ?_)
            have hI175 : Inv h174 := inv_full hI102 eh174 rfl
            have f176 : fr S_Tape_advanceX h h174 := fr_put f103 eh174 rfl
            refine V_goto 181 d_Tape_advance_70 (by decide) ?_
            obtain ⟨z177, z177Z, z177E, z177e⟩ : ∃ (y : Int32) (Y : Int), y.toInt = Y ∧ y = h174.1 89 5 := ⟨_, _, rfl, rfl⟩
            exact V_vret rfl d_Tape_advance_181 ⟨rfl, ⟨hI175, f176, 0, 0, tc_0, (kn_put eh174), v11, v11Z, v11E, (kn_nei eh174 (kn_nei eh101 K12 (by decide)) (by decide)), v11, v11Z, v11E, (kn_nei eh174 (kn_put eh101) (by decide)), z177, z177Z, z177E, z177e.symm, (by (first | decide +kernel | omega))⟩⟩
        ·
          have g178 := rn_step (P := blB) (b := b) (p := v11Z) (blB_y (by (first | decide +kernel | omega))) (by (first | decide +kernel | omega))
          refine V_aload_n 0 d_Tape_advance_33 rfl rfl ?_
          refine V_dup d_Tape_advance_34 rfl ?_
          refine N_getK fa_Tape_19 sk_89 rfl d_Tape_advance_35 K12 ?_
          refine V_iconst 1 d_Tape_advance_38 (by decide) ?_
          refine V_iadd v11E tc_1 (by (first | decide +kernel | omega)) d_Tape_advance_39 (fun z179 z179e z179E => ?_)
          refine N_putI fp_Tape_19 sk_89 rfl d_Tape_advance_40 (fun h180 eh180 => ?_)
          have hI181 : Inv h180 := inv_put (lo := 0) (hi := 160) Ih8 eh180 rfl z179E (by (first | decide +kernel | omega))
          have f182 : fr S_Tape_advanceX h h180 := fr_put Fh8 eh180 rfl
          refine V_goto 8 d_Tape_advance_43 (by decide) ?_
          exact ihL6 h180 z179 ((v11Z + 1)) hI181 f182 (kn_nei eh180 K9 (by decide)) (kn_nei eh180 K10 (by decide)) z179E (kn_put eh180) (by (first | decide +kernel | omega)) (by (first | decide +kernel | omega)) (by (first | decide +kernel | omega))
  exact L6 (Int.toNat ((160 - tZ : Int) + 1)) h3 t tZ hI4 f5 (kn_nei eh3 sK (by decide)) (kn_nei eh3 tK (by decide)) tE (kn_put eh3) (by (first | decide +kernel | omega)) (by (first | decide +kernel | omega)) (by (first | decide +kernel | omega))
end
