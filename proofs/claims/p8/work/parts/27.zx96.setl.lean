abbrev q_Int_bitCountX (h : Hp) (v : Int32) (vZ : Int) : Option Value → Hp → Prop := pInt (fun r h' => h = h' ∧ (r.toInt = (pcN 32 (uN v) : Nat)))
set_option maxRecDepth 100000 in
theorem c_Int_bitCountX (h : Hp) (v : Int32) (vZ : Int) (vE : v.toInt = vZ) : Ct y_Int_bitCount b_Int_bitCount 1 (some .int) 0 0 [.int v] h (q_Int_bitCountX h v vZ) := by
  refine ct_ow R_Int [some (.int v)] rfl (by decide) rfl (Nat.le_of_ble_eq_true rfl) ?_
  have f0 : fr [] h h := fr_rf
  refine V_iload_n 0 d_Int_bitCount_0 rfl rfl ?_
  refine V_iload_n 0 d_Int_bitCount_1 rfl rfl ?_
  refine V_iconst 1 d_Int_bitCount_2 (by decide) ?_
  refine N_iushr d_Int_bitCount_3 (fun z1 z1Z z1E z1e => ?_)
  refine V_ldcw d_Int_bitCount_4 wc_Int_265 ?_
  refine N_iand d_Int_bitCount_7 (fun z2 z2Z z2E z2e => ?_)
  refine N_isubw d_Int_bitCount_8 (fun z3 z3Z z3E z3e => ?_)
  refine V_istore_n 0 [some (.int z3)] d_Int_bitCount_9 rfl (by decide) rfl rfl ?_
  refine V_iload_n 0 d_Int_bitCount_10 rfl rfl ?_
  refine V_ldcw d_Int_bitCount_11 wc_Int_266 ?_
  refine N_iand d_Int_bitCount_14 (fun z4 z4Z z4E z4e => ?_)
  refine V_iload_n 0 d_Int_bitCount_15 rfl rfl ?_
  refine V_iconst 2 d_Int_bitCount_16 (by decide) ?_
  refine N_iushr d_Int_bitCount_17 (fun z5 z5Z z5E z5e => ?_)
  refine V_ldcw d_Int_bitCount_18 wc_Int_266 ?_
  refine N_iand d_Int_bitCount_21 (fun z6 z6Z z6E z6e => ?_)
  refine N_iaddw d_Int_bitCount_22 (fun z7 z7Z z7E z7e => ?_)
  refine V_istore_n 0 [some (.int z7)] d_Int_bitCount_23 rfl (by decide) rfl rfl ?_
  refine V_iload_n 0 d_Int_bitCount_24 rfl rfl ?_
  refine V_iload_n 0 d_Int_bitCount_25 rfl rfl ?_
  refine V_iconst 4 d_Int_bitCount_26 (by decide) ?_
  refine N_iushr d_Int_bitCount_27 (fun z8 z8Z z8E z8e => ?_)
  refine N_iaddw d_Int_bitCount_28 (fun z9 z9Z z9E z9e => ?_)
  refine V_ldcw d_Int_bitCount_29 wc_Int_267 ?_
  refine N_iand d_Int_bitCount_32 (fun z10 z10Z z10E z10e => ?_)
  refine V_istore_n 0 [some (.int z10)] d_Int_bitCount_33 rfl (by decide) rfl rfl ?_
  refine V_iload_n 0 d_Int_bitCount_34 rfl rfl ?_
  refine V_iload_n 0 d_Int_bitCount_35 rfl rfl ?_
  refine V_bipush 8 d_Int_bitCount_36 (by decide) ?_
  refine N_iushr d_Int_bitCount_38 (fun z11 z11Z z11E z11e => ?_)
  refine N_iaddw d_Int_bitCount_39 (fun z12 z12Z z12E z12e => ?_)
  refine V_istore_n 0 [some (.int z12)] d_Int_bitCount_40 rfl (by decide) rfl rfl ?_
  refine V_iload_n 0 d_Int_bitCount_41 rfl rfl ?_
  refine V_iload_n 0 d_Int_bitCount_42 rfl rfl ?_
  refine V_bipush 16 d_Int_bitCount_43 (by decide) ?_
  refine N_iushr d_Int_bitCount_45 (fun z13 z13Z z13E z13e => ?_)
  refine N_iaddw d_Int_bitCount_46 (fun z14 z14Z z14E z14e => ?_)
  refine V_istore_n 0 [some (.int z14)] d_Int_bitCount_47 rfl (by decide) rfl rfl ?_
  refine V_iload_n 0 d_Int_bitCount_48 rfl rfl ?_
  refine V_bipush 63 d_Int_bitCount_49 (by decide) ?_
  refine N_iand d_Int_bitCount_51 (fun z15 z15Z z15E z15e => ?_)
  exact V_iret rfl d_Int_bitCount_52 ⟨z15, rfl, ⟨rfl, (bc_of z1e z2e z3e z4e z5e z6e z7e z8e z9e z10e z11e z12e z13e z14e z15e)⟩⟩
abbrev q_Land_wellBitsX_0 (h : Hp) (w : Int32) (wZ : Int) (g : Int32) (gZ : Int) : Option Value → Hp → Prop := pInt (fun r h' => h = h' ∧ (BS r (WQ (h.1 2) (h.1 6) (wZ * gZ))))
set_option maxRecDepth 100000 in
theorem c_Land_wellBitsX_0 (h : Hp) (hI : Inv h) (w : Int32) (wZ : Int) (wE : w.toInt = wZ) (wK : h.1 1 0 = w) (g : Int32) (gZ : Int) (gE : g.toInt = gZ) (gK : h.1 1 1 = g) : Ct y_Land_wellBits b_Land_wellBits 3 (some .int) 1 21 [.ref 1] h (q_Land_wellBitsX_0 h w wZ g gZ) := by
  refine ct_ow R_Land [some (.ref 1), none, none] rfl (by decide) rfl (Nat.le_of_ble_eq_true rfl) ?_
  have f0 : fr [] h h := fr_rf
  have g1 : 2 ≤ wZ ∧ wZ ≤ 4 := inv_at hI wE wK.symm rfl
  have g2 : 2 ≤ gZ ∧ gZ ≤ 4 := inv_at hI gE gK.symm rfl
  have m24 := mul24 (A := wZ) (B := gZ) (by (first | decide +kernel | omega)) (by (first | decide +kernel | omega))
  refine V_iconst 0 d_Land_wellBits_0 (by decide) ?_
  refine V_istore_n 1 [some (.ref 1), some (.int 0), none] d_Land_wellBits_1 rfl (by decide) rfl rfl ?_
  refine V_iconst 0 d_Land_wellBits_2 (by decide) ?_
  refine V_istore_n 2 [some (.ref 1), some (.int 0), some (.int 0)] d_Land_wellBits_3 rfl (by decide) rfl rfl ?_
  have L3 : ∀ (nn : Nat) (v5 : Int32) (v5Z : Int) (v6 : Int32) (v6Z : Int), v5.toInt = v5Z → v6.toInt = v6Z → 0 ≤ v6Z ∧ v6Z ≤ wZ * gZ → BS v5 (WQ (h.1 2) (h.1 6) v6Z) → 16 - v6Z < (nn : Int) → V R_Land b_Land_wellBits 3 (some .int) 1 21 (q_Land_wellBitsX_0 h w wZ g gZ) h 4 [some (.ref 1), some (.int v5), some (.int v6)] [] := by
    intro nn
    induction nn with
    | zero => intro v5 v5Z v6 v6Z v5E v6E q7 q8 hm9; exact absurd hm9 (by (first | decide +kernel | omega))
    | succ nn ihL3 =>
      intro v5 v5Z v6 v6Z v5E v6E q7 q8 hm9
      refine V_iload_n 2 d_Land_wellBits_4 rfl rfl ?_
      refine V_aload_n 0 d_Land_wellBits_5 rfl rfl ?_
      refine N_callVI [] [.int v6] cv_Land_52 sk_1 rfl d_Land_wellBits_6 rfl (Nat.le_of_ble_eq_true rfl) (by decide) (by decide) (c_Land_cells_0 h hI w wZ wE wK g gZ gE gK) (fun z10 h11 z10Z z10E p12 => ?_)
      obtain ⟨eh11, p12⟩ := p12
      subst eh11
      refine V_icmp_ge 32 v6E z10E d_Land_wellBits_9 (by decide) (fun c13 => ?_) (fun c13 => ?_)
      ·
        refine V_iload_n 1 d_Land_wellBits_32 rfl rfl ?_
        exact V_iret rfl d_Land_wellBits_33 ⟨v5, rfl, ⟨rfl, (by rw [show wZ * gZ = v6Z by (first | decide +kernel | omega)]; assumption)⟩⟩
      ·
        refine V_aload_n 0 d_Land_wellBits_12 rfl rfl ?_
        refine V_iload_n 2 d_Land_wellBits_13 rfl rfl ?_
        refine N_callVI [.int v6] [] cv_Land_56 sk_1 rfl d_Land_wellBits_14 rfl (Nat.le_of_ble_eq_true rfl) (by decide) (by decide) (c_Land_isWellX_0 h hI v6 v6Z v6E (by (first | decide +kernel | omega))) (fun z14 h15 z14Z z14E p16 => ?_)
        obtain ⟨eh15, p16⟩ := p16
        subst eh15
        refine V_if_eq 26 z14E d_Land_wellBits_17 (by decide) (fun c17 => ?_) (fun c17 => ?_)
        ·
          obtain ⟨z18, z18E, z18e⟩ : ∃ y : Int32, y.toInt = v6Z + 1 ∧ y = v6 + Int32.ofInt 1 := ⟨_, ti_add v6E (by decide) (by (first | decide +kernel | omega)), rfl⟩
          refine V_iinc 2 [some (.ref 1), some (.int v5), some (.int z18)] d_Land_wellBits_26 rfl z18e.symm (by decide) rfl rfl ?_
          refine V_goto 4 d_Land_wellBits_29 (by decide) ?_
          exact ihL3 v5 v5Z z18 ((v6Z + 1)) v5E z18E (by (first | decide +kernel | omega)) (WQ_n (by assumption) (by (first | decide +kernel | omega)) (p16.resolve_left (fun q => absurd q.1 (by (first | decide +kernel | omega)))).2) (by (first | decide +kernel | omega))
        ·
          refine V_iload_n 1 d_Land_wellBits_20 rfl rfl ?_
          refine V_iconst 1 d_Land_wellBits_21 (by decide) ?_
          refine V_iload_n 2 d_Land_wellBits_22 rfl rfl ?_
          refine N_ishl d_Land_wellBits_23 (fun z19 z19Z z19E z19e => ?_)
          refine N_ior d_Land_wellBits_24 (fun z20 z20Z z20E z20e => ?_)
          refine V_istore_n 1 [some (.ref 1), some (.int z20), some (.int v6)] d_Land_wellBits_25 rfl (by decide) rfl rfl ?_
          obtain ⟨z21, z21E, z21e⟩ : ∃ y : Int32, y.toInt = v6Z + 1 ∧ y = v6 + Int32.ofInt 1 := ⟨_, ti_add v6E (by decide) (by (first | decide +kernel | omega)), rfl⟩
          refine V_iinc 2 [some (.ref 1), some (.int z20), some (.int z21)] d_Land_wellBits_26 rfl z21e.symm (by decide) rfl rfl ?_
          refine V_goto 4 d_Land_wellBits_29 (by decide) ?_
          exact ihL3 z20 z20Z z21 ((v6Z + 1)) z20E z21E (by (first | decide +kernel | omega)) (WQ_1 (by assumption) v6E (by (first | decide +kernel | omega)) (p16.resolve_right (fun q => absurd q.1 (by (first | decide +kernel | omega)))).2 z19e z20e) (by (first | decide +kernel | omega))
  exact L3 (Int.toNat ((16 - 0 : Int) + 1)) 0 0 0 0 tc_0 tc_0 (by (first | decide +kernel | omega)) WQ_0 (by (first | decide +kernel | omega))
abbrev q_Land_wellsX_0 (h : Hp) (w : Int32) (wZ : Int) (g : Int32) (gZ : Int) : Option Value → Hp → Prop := pInt (fun r h' => h = h' ∧ (r.toInt = (ct (WQ (h.1 2) (h.1 6) (wZ * gZ)) 32 : Nat)))
set_option maxRecDepth 100000 in
theorem c_Land_wellsX_0 (h : Hp) (hI : Inv h) (w : Int32) (wZ : Int) (wE : w.toInt = wZ) (wK : h.1 1 0 = w) (g : Int32) (gZ : Int) (gE : g.toInt = gZ) (gK : h.1 1 1 = g) : Ct y_Land_wells b_Land_wells 1 (some .int) 2 43 [.ref 1] h (q_Land_wellsX_0 h w wZ g gZ) := by
  refine ct_ow R_Land [some (.ref 1)] rfl (by decide) rfl (Nat.le_of_ble_eq_true rfl) ?_
  have f0 : fr [] h h := fr_rf
  have g1 : 2 ≤ wZ ∧ wZ ≤ 4 := inv_at hI wE wK.symm rfl
  have g2 : 2 ≤ gZ ∧ gZ ≤ 4 := inv_at hI gE gK.symm rfl
  refine V_aload_n 0 d_Land_wells_0 rfl rfl ?_
  refine N_callVI [] [] cv_Land_60 sk_1 rfl d_Land_wells_1 rfl (Nat.le_of_ble_eq_true rfl) (by decide) (by decide) (c_Land_wellBitsX_0 h hI w wZ wE wK g gZ gE gK) (fun z3 h4 z3Z z3E p5 => ?_)
  obtain ⟨eh4, p5⟩ := p5
  subst eh4
  refine N_callSI [.int z3] [] cs_Land_63 d_Land_wells_4 rfl (Nat.le_of_ble_eq_true rfl) (by decide) (by decide) (c_Int_bitCountX h z3 z3Z z3E) (fun z6 h7 z6Z z6E p8 => ?_)
  obtain ⟨eh7, p8⟩ := p8
  subst eh7
  exact V_iret rfl d_Land_wells_7 ⟨z6, rfl, ⟨rfl, (p8.trans (congrArg (fun q : Nat => (q : Int)) (BS_ct p5)))⟩⟩
abbrev q_Mod_wellsX (h : Hp) (w : Int32) (wZ : Int) (g : Int32) (gZ : Int) : Option Value → Hp → Prop := pInt (fun r h' => h = h' ∧ (r.toInt = (ct (WQ (fun i => h.1 117 i) (fun i => h.1 117 (64 + i)) (wZ * gZ)) (wZ * gZ).toNat : Nat)))
set_option maxRecDepth 100000 in
theorem c_Mod_wellsX (h : Hp) (hI : Inv h) (w : Int32) (wZ : Int) (wE : w.toInt = wZ) (wK : h.1 116 2 = w) (g : Int32) (gZ : Int) (gE : g.toInt = gZ) (gK : h.1 116 3 = g) : Ct y_Mod_wells b_Mod_wells 3 (some .int) 2 42 [.ref 116] h (q_Mod_wellsX h w wZ g gZ) := by
  refine ct_ow R_Mod [some (.ref 116), none, none] rfl (by decide) rfl (Nat.le_of_ble_eq_true rfl) ?_
  have f0 : fr [] h h := fr_rf
  have g1 : 2 ≤ wZ ∧ wZ ≤ 4 := inv_at hI wE wK.symm rfl
  have g2 : 2 ≤ gZ ∧ gZ ≤ 4 := inv_at hI gE gK.symm rfl
  have m24 := mul24 (A := wZ) (B := gZ) (by (first | decide +kernel | omega)) (by (first | decide +kernel | omega))
  refine V_iconst 0 d_Mod_wells_0 (by decide) ?_
  refine V_istore_n 1 [some (.ref 116), some (.int 0), none] d_Mod_wells_1 rfl (by decide) rfl rfl ?_
  refine V_iconst 0 d_Mod_wells_2 (by decide) ?_
  refine V_istore_n 2 [some (.ref 116), some (.int 0), some (.int 0)] d_Mod_wells_3 rfl (by decide) rfl rfl ?_
  have L3 : ∀ (nn : Nat) (v5 : Int32) (v5Z : Int) (v6 : Int32) (v6Z : Int), v5.toInt = v5Z → v6.toInt = v6Z → 0 ≤ v6Z ∧ v6Z ≤ wZ * gZ → v5Z = (ct (WQ (fun i => h.1 117 i) (fun i => h.1 117 (64 + i)) (wZ * gZ)) (v6Z).toNat : Nat) → 0 ≤ v5Z ∧ v5Z ≤ v6Z → 16 - v6Z < (nn : Int) → V R_Mod b_Mod_wells 3 (some .int) 2 42 (q_Mod_wellsX h w wZ g gZ) h 4 [some (.ref 116), some (.int v5), some (.int v6)] [] := by
    intro nn
    induction nn with
    | zero => intro v5 v5Z v6 v6Z v5E v6E q7 q8 q9 hm10; exact absurd hm10 (by (first | decide +kernel | omega))
    | succ nn ihL3 =>
      intro v5 v5Z v6 v6Z v5E v6E q7 q8 q9 hm10
      refine V_iload_n 2 d_Mod_wells_4 rfl rfl ?_
      refine V_aload_n 0 d_Mod_wells_5 rfl rfl ?_
      refine N_callVI [] [.int v6] cv_Mod_183 sk_116 rfl d_Mod_wells_6 rfl (Nat.le_of_ble_eq_true rfl) (by decide) (by decide) (c_Mod_cellMany h hI w wZ wE wK g gZ gE gK) (fun z11 h12 z11Z z11E p13 => ?_)
      obtain ⟨eh12, p13⟩ := p13
      subst eh12
      refine V_icmp_ge 29 v6E z11E d_Mod_wells_9 (by decide) (fun c14 => ?_) (fun c14 => ?_)
      ·
        refine V_iload_n 1 d_Mod_wells_29 rfl rfl ?_
        exact V_iret rfl d_Mod_wells_30 ⟨v5, rfl, ⟨rfl, (by rw [v5E, show (wZ * gZ).toNat = (v6Z).toNat by (first | decide +kernel | omega)]; assumption)⟩⟩
      ·
        refine V_iload_n 1 d_Mod_wells_12 rfl rfl ?_
        refine V_aload_n 0 d_Mod_wells_13 rfl rfl ?_
        refine V_iload_n 2 d_Mod_wells_14 rfl rfl ?_
        refine N_callVI [.int v6] [.int v5] cv_Mod_192 sk_116 rfl d_Mod_wells_15 rfl (Nat.le_of_ble_eq_true rfl) (by decide) (by decide) (c_Mod_isWellX h hI v6 v6Z v6E (by (first | decide +kernel | omega))) (fun z15 h16 z15Z z15E p17 => ?_)
        obtain ⟨eh16, p17⟩ := p17
        subst eh16
        refine N_callSI [.int z15] [.int v5] cs_Mod_196 d_Mod_wells_18 rfl (Nat.le_of_ble_eq_true rfl) (by decide) (by decide) (c_Mod_flag h z15 z15Z z15E) (fun z18 h19 z18Z z18E p20 => ?_)
        obtain ⟨eh19, p20⟩ := p20
        subst eh19
        refine V_iadd v5E z18E (by (first | decide +kernel | omega)) d_Mod_wells_21 (fun z21 z21e z21E => ?_)
        refine V_istore_n 1 [some (.ref 116), some (.int z21), some (.int v6)] d_Mod_wells_22 rfl (by decide) rfl rfl ?_
        obtain ⟨z22, z22E, z22e⟩ : ∃ y : Int32, y.toInt = v6Z + 1 ∧ y = v6 + Int32.ofInt 1 := ⟨_, ti_add v6E (by decide) (by (first | decide +kernel | omega)), rfl⟩
        refine V_iinc 2 [some (.ref 116), some (.int z21), some (.int z22)] d_Mod_wells_23 rfl z22e.symm (by decide) rfl rfl ?_
        refine V_goto 4 d_Mod_wells_26 (by decide) ?_
        exact ihL3 z21 ((v5Z + z18Z)) z22 ((v6Z + 1)) z21E z22E (by (first | decide +kernel | omega)) (ct_s (by (first | decide +kernel | omega)) (by assumption) (WQ_fm (by (first | decide +kernel | omega)) p17 z15E p20 z18E)) (by (first | decide +kernel | omega)) (by (first | decide +kernel | omega))
  exact L3 (Int.toNat ((16 - 0 : Int) + 1)) 0 0 0 0 tc_0 tc_0 (by (first | decide +kernel | omega)) rfl (by (first | decide +kernel | omega)) (by (first | decide +kernel | omega))
abbrev q_Rod_cellX (h : Hp) (c : Int32) (cZ : Int) (a : Int32) (aZ : Int) (w : Int32) (wZ : Int) (g : Int32) (gZ : Int) : Option Value → Hp → Prop := pInt (fun r h' => h = h' ∧ (CL (0 ≤ cZ ∧ cZ < wZ * gZ) aZ (fun j => h.1 (2 + j) cZ.toNat) r))
set_option maxRecDepth 100000 in
theorem c_Rod_cellX (h : Hp) (hI : Inv h) (c : Int32) (cZ : Int) (cE : c.toInt = cZ) (a : Int32) (aZ : Int) (aE : a.toInt = aZ) (w : Int32) (wZ : Int) (wE : w.toInt = wZ) (wK : h.1 1 0 = w) (g : Int32) (gZ : Int) (gE : g.toInt = gZ) (gK : h.1 1 1 = g) : Ct y_Rod_cell b_Rod_cell 4 (some .int) 2 41 [.ref 85, .int c, .int a] h (q_Rod_cellX h c cZ a aZ w wZ g gZ) := by
  refine ct_ow R_Rod [some (.ref 85), some (.int c), some (.int a), none] rfl (by decide) rfl (Nat.le_of_ble_eq_true rfl) ?_
  have f0 : fr [] h h := fr_rf
  have g1 : 2 ≤ wZ ∧ wZ ≤ 4 := inv_at hI wE wK.symm rfl
  have g2 : 2 ≤ gZ ∧ gZ ≤ 4 := inv_at hI gE gK.symm rfl
  refine V_aload_n 0 d_Rod_cell_0 rfl rfl ?_
  refine V_getR fa_Rod_12 sk_85 rfl d_Rod_cell_1 ?_
  refine V_getR fa_Rod_91 sk_0 rfl d_Rod_cell_4 ?_
  refine V_astore_n 3 [some (.ref 85), some (.int c), some (.int a), some (.ref 1)] d_Rod_cell_7 rfl (by decide) rfl rfl ?_
  refine V_aload_n 3 d_Rod_cell_8 rfl rfl ?_
  refine V_iload_n 1 d_Rod_cell_9 rfl rfl ?_
  refine N_callVI [.int c] [] cv_Rod_124 sk_1 rfl d_Rod_cell_10 rfl (Nat.le_of_ble_eq_true rfl) (by decide) (by decide) (c_Land_hasX_0 h hI c cZ cE w wZ wE wK g gZ gE gK) (fun z3 h4 z3Z z3E p5 => ?_)
  obtain ⟨eh4, p5⟩ := p5
  subst eh4
  refine V_if_ne 18 z3E d_Rod_cell_13 (by decide) (fun c6 => ?_) (fun c6 => ?_)
  ·
    refine V_iload_n 2 d_Rod_cell_18 rfl rfl ?_
    rcases (by (first | decide +kernel | omega) : (aZ < 0 ∨ 5 < aZ) ∨ aZ = 0 ∨ aZ = 1 ∨ aZ = 2 ∨ aZ = 3 ∨ aZ = 4 ∨ aZ = 5) with c7 | c7 | c7 | c7 | c7 | c7 | c7
    ·
      refine V_tabOut 100 aE d_Rod_cell_19 c7 (by decide) ?_
      refine V_iconst (-1) d_Rod_cell_100 (by decide) ?_
      exact V_iret rfl d_Rod_cell_101 ⟨(-1), rfl, ⟨rfl, (Or.inl ⟨by (first | decide +kernel | omega), tc_m1⟩)⟩⟩
    ·
      refine V_tabIn 56 aE d_Rod_cell_19 (by (first | decide +kernel | omega)) (by (first | decide +kernel | omega)) (by rw [c7]; rfl) (by decide) ?_
      refine V_aload_n 3 d_Rod_cell_56 rfl rfl ?_
      refine V_getR fa_Rod_128 sk_1 rfl d_Rod_cell_57 ?_
      refine V_iload_n 1 d_Rod_cell_60 rfl rfl ?_
      refine N_iald sk_2 cE (by (first | decide +kernel | omega)) d_Rod_cell_61 (fun z8 z8Z z8E z8e => ?_)
      exact V_iret rfl d_Rod_cell_62 ⟨z8, rfl, ⟨rfl, (Or.inr (Or.inl ⟨by (first | decide +kernel | omega), by rw [show aZ.toNat = 0 by (first | decide +kernel | omega)]; exact z8e⟩))⟩⟩
    ·
      refine V_tabIn 63 aE d_Rod_cell_19 (by (first | decide +kernel | omega)) (by (first | decide +kernel | omega)) (by rw [c7]; rfl) (by decide) ?_
      refine V_aload_n 3 d_Rod_cell_63 rfl rfl ?_
      refine V_getR fa_Rod_132 sk_1 rfl d_Rod_cell_64 ?_
      refine V_iload_n 1 d_Rod_cell_67 rfl rfl ?_
      refine N_iald sk_3 cE (by (first | decide +kernel | omega)) d_Rod_cell_68 (fun z9 z9Z z9E z9e => ?_)
      exact V_iret rfl d_Rod_cell_69 ⟨z9, rfl, ⟨rfl, (Or.inr (Or.inl ⟨by (first | decide +kernel | omega), by rw [show aZ.toNat = 1 by (first | decide +kernel | omega)]; exact z9e⟩))⟩⟩
    ·
      refine V_tabIn 70 aE d_Rod_cell_19 (by (first | decide +kernel | omega)) (by (first | decide +kernel | omega)) (by rw [c7]; rfl) (by decide) ?_
      refine V_aload_n 3 d_Rod_cell_70 rfl rfl ?_
      refine V_getR fa_Rod_135 sk_1 rfl d_Rod_cell_71 ?_
      refine V_iload_n 1 d_Rod_cell_74 rfl rfl ?_
      refine N_iald sk_4 cE (by (first | decide +kernel | omega)) d_Rod_cell_75 (fun z10 z10Z z10E z10e => ?_)
      exact V_iret rfl d_Rod_cell_76 ⟨z10, rfl, ⟨rfl, (Or.inr (Or.inl ⟨by (first | decide +kernel | omega), by rw [show aZ.toNat = 2 by (first | decide +kernel | omega)]; exact z10e⟩))⟩⟩
    ·
      refine V_tabIn 77 aE d_Rod_cell_19 (by (first | decide +kernel | omega)) (by (first | decide +kernel | omega)) (by rw [c7]; rfl) (by decide) ?_
      refine V_aload_n 3 d_Rod_cell_77 rfl rfl ?_
      refine V_getR fa_Rod_138 sk_1 rfl d_Rod_cell_78 ?_
      refine V_iload_n 1 d_Rod_cell_81 rfl rfl ?_
      refine N_iald sk_5 cE (by (first | decide +kernel | omega)) d_Rod_cell_82 (fun z11 z11Z z11E z11e => ?_)
      exact V_iret rfl d_Rod_cell_83 ⟨z11, rfl, ⟨rfl, (Or.inr (Or.inl ⟨by (first | decide +kernel | omega), by rw [show aZ.toNat = 3 by (first | decide +kernel | omega)]; exact z11e⟩))⟩⟩
    ·
      refine V_tabIn 84 aE d_Rod_cell_19 (by (first | decide +kernel | omega)) (by (first | decide +kernel | omega)) (by rw [c7]; rfl) (by decide) ?_
      refine V_aload_n 3 d_Rod_cell_84 rfl rfl ?_
      refine V_getR fa_Rod_141 sk_1 rfl d_Rod_cell_85 ?_
      refine V_iload_n 1 d_Rod_cell_88 rfl rfl ?_
      refine N_iald sk_6 cE (by (first | decide +kernel | omega)) d_Rod_cell_89 (fun z12 z12Z z12E z12e => ?_)
      exact V_iret rfl d_Rod_cell_90 ⟨z12, rfl, ⟨rfl, (Or.inr (Or.inl ⟨by (first | decide +kernel | omega), by rw [show aZ.toNat = 4 by (first | decide +kernel | omega)]; exact z12e⟩))⟩⟩
    ·
      refine V_tabIn 91 aE d_Rod_cell_19 (by (first | decide +kernel | omega)) (by (first | decide +kernel | omega)) (by rw [c7]; rfl) (by decide) ?_
      refine V_aload_n 3 d_Rod_cell_91 rfl rfl ?_
      refine V_iload_n 1 d_Rod_cell_92 rfl rfl ?_
      refine N_callVI [.int c] [] cv_Rod_144 sk_1 rfl d_Rod_cell_93 rfl (Nat.le_of_ble_eq_true rfl) (by decide) (by decide) (c_Land_isWellX_0 h hI c cZ cE (by (first | decide +kernel | omega))) (fun z13 h14 z13Z z13E p15 => ?_)
      obtain ⟨eh14, p15⟩ := p15
      subst eh14
      refine N_callSI [.int z13] [] cs_Rod_147 d_Rod_cell_96 rfl (Nat.le_of_ble_eq_true rfl) (by decide) (by decide) (c_Rod_oneIf h z13 z13Z z13E) (fun z16 h17 z16Z z16E p18 => ?_)
      obtain ⟨eh17, p18⟩ := p18
      subst eh17
      exact V_iret rfl d_Rod_cell_99 ⟨z16, rfl, ⟨rfl, (Or.inr (Or.inr ⟨by (first | decide +kernel | omega), bc_sw p15 z13E p18⟩))⟩⟩
  ·
    refine V_iconst (-1) d_Rod_cell_16 (by decide) ?_
    exact V_iret rfl d_Rod_cell_17 ⟨(-1), rfl, ⟨rfl, (Or.inl ⟨by (first | decide +kernel | omega), tc_m1⟩)⟩⟩
abbrev q_Mod_isWellY (h : Hp) (c : Int32) (cZ : Int) : Option Value → Hp → Prop := pInt (fun r h' => h = h' ∧ (r.toInt = 1 ∧ bW (h.1 117 (16 * 0 + cZ.toNat)) (h.1 117 (16 * 4 + cZ.toNat)) ∨ r.toInt = 0 ∧ ¬ bW (h.1 117 (16 * 0 + cZ.toNat)) (h.1 117 (16 * 4 + cZ.toNat))))
set_option maxRecDepth 100000 in
theorem c_Mod_isWellY (h : Hp) (hI : Inv h) (c : Int32) (cZ : Int) (cE : c.toInt = cZ) (hy0 : 0 ≤ cZ ∧ cZ ≤ 15) : Ct y_Mod_isWell b_Mod_isWell 2 (some .boolean) 1 21 [.ref 116, .int c] h (q_Mod_isWellY h c cZ) := by
  refine ct_ow R_Mod [some (.ref 116), some (.int c)] rfl (by decide) rfl (Nat.le_of_ble_eq_true rfl) ?_
  have f0 : fr [] h h := fr_rf
  obtain ⟨uv, uvZ, uvE, uvK⟩ : ∃ (y : Int32) (Y : Int), y.toInt = Y ∧ h.1 117 ((0 + cZ)).toNat = y := ⟨_, _, rfl, rfl⟩
  obtain ⟨bv, bvZ, bvE, bvK⟩ : ∃ (y : Int32) (Y : Int), y.toInt = Y ∧ h.1 117 ((64 + cZ)).toNat = y := ⟨_, _, rfl, rfl⟩
  refine V_aload_n 0 d_Mod_isWell_0 rfl rfl ?_
  refine V_getR fa_Mod_7 sk_116 rfl d_Mod_isWell_1 ?_
  refine V_iconst 0 d_Mod_isWell_4 (by decide) ?_
  refine V_iload_n 1 d_Mod_isWell_5 rfl rfl ?_
  refine V_iadd tc_0 cE (by (first | decide +kernel | omega)) d_Mod_isWell_6 (fun z1 z1e z1E => ?_)
  refine N_ialdK sk_117 z1E (by (first | decide +kernel | omega)) d_Mod_isWell_7 uvK ?_
  refine V_aload_n 0 d_Mod_isWell_8 rfl rfl ?_
  refine V_getR fa_Mod_7 sk_116 rfl d_Mod_isWell_9 ?_
  refine V_bipush 64 d_Mod_isWell_12 (by decide) ?_
  refine V_iload_n 1 d_Mod_isWell_14 rfl rfl ?_
  refine V_iadd tc_64 cE (by (first | decide +kernel | omega)) d_Mod_isWell_15 (fun z3 z3e z3E => ?_)
  refine N_ialdK sk_117 z3E (by (first | decide +kernel | omega)) d_Mod_isWell_16 bvK ?_
  refine N_callSI [.int uv, .int bv] [] cs_Mod_188 d_Mod_isWell_17 rfl (Nat.le_of_ble_eq_true rfl) (by decide) (by decide) (c_Mod_isWellByX h uv uvZ uvE bv bvZ bvE) (fun z5 h6 z5Z z5E p7 => ?_)
  obtain ⟨eh6, p7⟩ := p7
  subst eh6
  exact V_zret rfl (by rw [z5E]; omega) d_Mod_isWell_20 ⟨z5, rfl, ⟨rfl, (by rw [show 16 * 0 + cZ.toNat = (0 + cZ).toNat by (first | decide +kernel | omega), show 16 * 4 + cZ.toNat = (64 + cZ).toNat by (first | decide +kernel | omega), uvK, bvK]; unfold bW; (try rw [z5E]); omega)⟩⟩
abbrev q_Mod_cellX (h : Hp) (c : Int32) (cZ : Int) (a : Int32) (aZ : Int) (w : Int32) (wZ : Int) (g : Int32) (gZ : Int) : Option Value → Hp → Prop := pInt (fun r h' => h = h' ∧ (CL (0 ≤ cZ ∧ cZ < wZ * gZ) aZ (fun j => h.1 117 (16 * j + cZ.toNat)) r))
set_option maxRecDepth 100000 in
theorem c_Mod_cellX (h : Hp) (hI : Inv h) (c : Int32) (cZ : Int) (cE : c.toInt = cZ) (a : Int32) (aZ : Int) (aE : a.toInt = aZ) (w : Int32) (wZ : Int) (wE : w.toInt = wZ) (wK : h.1 116 2 = w) (g : Int32) (gZ : Int) (gE : g.toInt = gZ) (gK : h.1 116 3 = g) : Ct y_Mod_cell b_Mod_cell 3 (some .int) 2 46 [.ref 116, .int c, .int a] h (q_Mod_cellX h c cZ a aZ w wZ g gZ) := by
  refine ct_ow R_Mod [some (.ref 116), some (.int c), some (.int a)] rfl (by decide) rfl (Nat.le_of_ble_eq_true rfl) ?_
  have f0 : fr [] h h := fr_rf
  have g1 : 2 ≤ wZ ∧ wZ ≤ 4 := inv_at hI wE wK.symm rfl
  have g2 : 2 ≤ gZ ∧ gZ ≤ 4 := inv_at hI gE gK.symm rfl
  refine V_aload_n 0 d_Mod_cell_0 rfl rfl ?_
  refine V_iload_n 1 d_Mod_cell_1 rfl rfl ?_
  refine N_callVI [.int c] [] cv_Mod_200 sk_116 rfl d_Mod_cell_2 rfl (Nat.le_of_ble_eq_true rfl) (by decide) (by decide) (c_Mod_isCellX h hI c cZ cE w wZ wE wK g gZ gE gK) (fun z3 h4 z3Z z3E p5 => ?_)
  obtain ⟨eh4, p5⟩ := p5
  subst eh4
  refine V_if_eq 20 z3E d_Mod_cell_5 (by decide) (fun c6 => ?_) (fun c6 => ?_)
  ·
    refine V_iconst (-1) d_Mod_cell_20 (by decide) ?_
    exact V_iret rfl d_Mod_cell_21 ⟨(-1), rfl, ⟨rfl, (Or.inl ⟨by (first | decide +kernel | omega), tc_m1⟩)⟩⟩
  ·
    refine V_iload_n 2 d_Mod_cell_8 rfl rfl ?_
    refine V_i2l d_Mod_cell_9 (fun z7 z7e z7E => ?_)
    have z7F : z7.toInt = aZ := z7E.trans aE
    refine V_lconst 0 d_Mod_cell_10 (by decide) ?_
    refine V_ldc2 d_Mod_cell_11 wl_Mod_203 ?_
    refine N_callSI [.long z7, .long 0, .long 5] [] cs_Mod_95 d_Mod_cell_14 rfl (Nat.le_of_ble_eq_true rfl) (by decide) (by decide) (c_Mod_in h z7 aZ z7F 0 0 tl_0 5 5 tl_5) (fun z8 h9 z8Z z8E p10 => ?_)
    obtain ⟨eh9, p10⟩ := p10
    subst eh9
    refine V_if_ne 22 z8E d_Mod_cell_17 (by decide) (fun c11 => ?_) (fun c11 => ?_)
    ·
      refine V_iload_n 2 d_Mod_cell_22 rfl rfl ?_
      refine V_iconst 5 d_Mod_cell_23 (by decide) ?_
      refine V_icmp_ne 38 aE tc_5 d_Mod_cell_24 (by decide) (fun c12 => ?_) (fun c12 => ?_)
      ·
        refine V_aload_n 0 d_Mod_cell_38 rfl rfl ?_
        refine V_getR fa_Mod_7 sk_116 rfl d_Mod_cell_39 ?_
        refine V_bipush 16 d_Mod_cell_42 (by decide) ?_
        refine V_iload_n 2 d_Mod_cell_44 rfl rfl ?_
        refine V_imul tc_16 aE (by (first | decide +kernel | omega)) d_Mod_cell_45 (fun z13 z13e z13E => ?_)
        refine V_iload_n 1 d_Mod_cell_46 rfl rfl ?_
        refine V_iadd z13E cE (by (first | decide +kernel | omega)) d_Mod_cell_47 (fun z14 z14e z14E => ?_)
        refine N_iald sk_117 z14E (by (first | decide +kernel | omega)) d_Mod_cell_48 (fun z15 z15Z z15E z15e => ?_)
        exact V_iret rfl d_Mod_cell_49 ⟨z15, rfl, ⟨rfl, (Or.inr (Or.inl ⟨by (first | decide +kernel | omega), by show _ = h.1 117 (16 * aZ.toNat + cZ.toNat); rw [show 16 * aZ.toNat + cZ.toNat = (16 * aZ + cZ).toNat by (first | decide +kernel | omega)]; exact z15e⟩))⟩⟩
      ·
        refine V_aload_n 0 d_Mod_cell_27 rfl rfl ?_
        refine V_iload_n 1 d_Mod_cell_28 rfl rfl ?_
        refine N_callVI [.int c] [] cv_Mod_192 sk_116 rfl d_Mod_cell_29 rfl (Nat.le_of_ble_eq_true rfl) (by decide) (by decide) (c_Mod_isWellY h hI c cZ cE (by (first | decide +kernel | omega))) (fun z16 h17 z16Z z16E p18 => ?_)
        obtain ⟨eh17, p18⟩ := p18
        subst eh17
        refine N_callSI [.int z16] [] cs_Mod_196 d_Mod_cell_32 rfl (Nat.le_of_ble_eq_true rfl) (by decide) (by decide) (c_Mod_flag h z16 z16Z z16E) (fun z19 h20 z19Z z19E p21 => ?_)
        obtain ⟨eh20, p21⟩ := p21
        subst eh20
        refine V_goto 49 d_Mod_cell_35 (by decide) ?_
        exact V_iret rfl d_Mod_cell_49 ⟨z19, rfl, ⟨rfl, (Or.inr (Or.inr ⟨by (first | decide +kernel | omega), bc_sw p18 z16E p21⟩))⟩⟩
    ·
      refine V_iconst (-1) d_Mod_cell_20 (by decide) ?_
      exact V_iret rfl d_Mod_cell_21 ⟨(-1), rfl, ⟨rfl, (Or.inl ⟨by (first | decide +kernel | omega), tc_m1⟩)⟩⟩
abbrev q_Rod_purseX (h : Hp) (o : Int32) (oZ : Int) : Option Value → Hp → Prop := pInt (fun r h' => h = h' ∧ ((0 ≤ oZ ∧ oZ ≤ 3) ∧ r = h.1 8 oZ.toNat ∨ ¬ (0 ≤ oZ ∧ oZ ≤ 3) ∧ r.toInt = -1))
set_option maxRecDepth 100000 in
theorem c_Rod_purseX (h : Hp) (hI : Inv h) (o : Int32) (oZ : Int) (oE : o.toInt = oZ) : Ct y_Rod_purse b_Rod_purse 2 (some .int) 1 20 [.ref 85, .int o] h (q_Rod_purseX h o oZ) := by
  refine ct_ow R_Rod [some (.ref 85), some (.int o)] rfl (by decide) rfl (Nat.le_of_ble_eq_true rfl) ?_
  have f0 : fr [] h h := fr_rf
  refine V_iload_n 1 d_Rod_purse_0 rfl rfl ?_
  refine N_callSI [.int o] [] cs_Rod_151 d_Rod_purse_1 rfl (Nat.le_of_ble_eq_true rfl) (by decide) (by decide) (c_Rod_isOwner h o oZ oE) (fun z1 h2 z1Z z1E p3 => ?_)
  obtain ⟨eh2, p3⟩ := p3
  subst eh2
  refine V_if_eq 22 z1E d_Rod_purse_4 (by decide) (fun c4 => ?_) (fun c4 => ?_)
  ·
    refine V_iconst (-1) d_Rod_purse_22 (by decide) ?_
    exact V_iret rfl d_Rod_purse_23 ⟨(-1), rfl, ⟨rfl, (Or.inr ⟨by (first | decide +kernel | omega), tc_m1⟩)⟩⟩
  ·
    refine V_aload_n 0 d_Rod_purse_7 rfl rfl ?_
    refine V_getR fa_Rod_12 sk_85 rfl d_Rod_purse_8 ?_
    refine V_getR fa_Rod_115 sk_0 rfl d_Rod_purse_11 ?_
    refine V_getR fa_Rod_154 sk_7 rfl d_Rod_purse_14 ?_
    refine V_iload_n 1 d_Rod_purse_17 rfl rfl ?_
    refine N_iald sk_8 oE (by (first | decide +kernel | omega)) d_Rod_purse_18 (fun z5 z5Z z5E z5e => ?_)
    refine V_goto 23 d_Rod_purse_19 (by decide) ?_
    exact V_iret rfl d_Rod_purse_23 ⟨z5, rfl, ⟨rfl, (Or.inl ⟨by (first | decide +kernel | omega), z5e⟩)⟩⟩
abbrev q_Mod_purseX (h : Hp) (o : Int32) (oZ : Int) : Option Value → Hp → Prop := pInt (fun r h' => h = h' ∧ ((0 ≤ oZ ∧ oZ ≤ 3) ∧ r = h.1 117 (80 + oZ).toNat ∨ ¬ (0 ≤ oZ ∧ oZ ≤ 3) ∧ r.toInt = -1))
set_option maxRecDepth 100000 in
theorem c_Mod_purseX (h : Hp) (hI : Inv h) (o : Int32) (oZ : Int) (oE : o.toInt = oZ) : Ct y_Mod_purse b_Mod_purse 2 (some .int) 2 45 [.ref 116, .int o] h (q_Mod_purseX h o oZ) := by
  refine ct_ow R_Mod [some (.ref 116), some (.int o)] rfl (by decide) rfl (Nat.le_of_ble_eq_true rfl) ?_
  have f0 : fr [] h h := fr_rf
  refine V_iload_n 1 d_Mod_purse_0 rfl rfl ?_
  refine N_callSI [.int o] [] cs_Mod_205 d_Mod_purse_1 rfl (Nat.le_of_ble_eq_true rfl) (by decide) (by decide) (c_Mod_isOwner h o oZ oE) (fun z1 h2 z1Z z1E p3 => ?_)
  obtain ⟨eh2, p3⟩ := p3
  subst eh2
  refine V_if_eq 19 z1E d_Mod_purse_4 (by decide) (fun c4 => ?_) (fun c4 => ?_)
  ·
    refine V_iconst (-1) d_Mod_purse_19 (by decide) ?_
    exact V_iret rfl d_Mod_purse_20 ⟨(-1), rfl, ⟨rfl, (Or.inr ⟨by (first | decide +kernel | omega), tc_m1⟩)⟩⟩
  ·
    refine V_aload_n 0 d_Mod_purse_7 rfl rfl ?_
    refine V_getR fa_Mod_7 sk_116 rfl d_Mod_purse_8 ?_
    refine V_bipush 80 d_Mod_purse_11 (by decide) ?_
    refine V_iload_n 1 d_Mod_purse_13 rfl rfl ?_
    refine V_iadd tc_80 oE (by (first | decide +kernel | omega)) d_Mod_purse_14 (fun z5 z5e z5E => ?_)
    refine N_iald sk_117 z5E (by (first | decide +kernel | omega)) d_Mod_purse_15 (fun z6 z6Z z6E z6e => ?_)
    refine V_goto 20 d_Mod_purse_16 (by decide) ?_
    exact V_iret rfl d_Mod_purse_20 ⟨z6, rfl, ⟨rfl, (Or.inl ⟨by (first | decide +kernel | omega), z6e⟩)⟩⟩
