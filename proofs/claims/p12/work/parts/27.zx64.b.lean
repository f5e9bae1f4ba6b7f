section
def S_Mod_wetA : List (Nat × Option Nat) := [(117, none)]
abbrev q_Mod_wetA (h : Hp) (c : Int32) (cZ : Int) (v : Int32) (vZ : Int) (w : Int32) (wZ : Int) (g : Int32) (gZ : Int) : Option Value → Hp → Prop := pInt (fun r h' => Inv h' ∧ fr S_Mod_wetA h h' ∧ (nA h h'))
set_option maxRecDepth 100000 in
theorem c_Mod_wetA (h : Hp) (hI : Inv h) (c : Int32) (cZ : Int) (cE : c.toInt = cZ) (v : Int32) (vZ : Int) (vE : v.toInt = vZ) (w : Int32) (wZ : Int) (wE : w.toInt = wZ) (wK : h.1 116 2 = w) (g : Int32) (gZ : Int) (gE : g.toInt = gZ) (gK : h.1 116 3 = g) : Ct y_Mod_wet b_Mod_wet 3 (some .int) 2 46 [.ref 116, .int c, .int v] h (q_Mod_wetA h c cZ v vZ w wZ g gZ) := by
  refine ct_ow R_Mod [some (.ref 116), some (.int c), some (.int v)] rfl (by decide) rfl (Nat.le_of_ble_eq_true rfl) ?_
  have f0 : fr S_Mod_wetA h h := fr_rf
  have g1 : 2 ≤ wZ ∧ wZ ≤ 4 := inv_at hI wE wK.symm rfl
  have g2 : 2 ≤ gZ ∧ gZ ≤ 4 := inv_at hI gE gK.symm rfl
  refine V_aload_n 0 d_Mod_wet_0 rfl rfl ?_
  refine V_iload_n 1 d_Mod_wet_1 rfl rfl ?_
  refine N_callVI [.int c] [] cv_Mod_200 sk_116 rfl d_Mod_wet_2 rfl (Nat.le_of_ble_eq_true rfl) (by decide) (by decide) (c_Mod_isCellX h hI c cZ cE w wZ wE wK g gZ gE gK) (fun z3 h4 z3Z z3E p5 => ?_)
  obtain ⟨eh4, p5⟩ := p5
  subst eh4
  refine V_if_eq 20 z3E d_Mod_wet_5 (by decide) (fun c6 => ?_) (fun c6 => ?_)
  ·
    refine V_iconst (-1) d_Mod_wet_20 (by decide) ?_
    exact V_iret rfl d_Mod_wet_21 ⟨(-1), rfl, ⟨hI, f0, nA_rf⟩⟩
  ·
    refine V_iload_n 2 d_Mod_wet_8 rfl rfl ?_
    refine V_i2l d_Mod_wet_9 (fun z7 z7e z7E => ?_)
    have z7F : z7.toInt = vZ := z7E.trans vE
    refine V_lconst 0 d_Mod_wet_10 (by decide) ?_
    refine V_ldc2 d_Mod_wet_11 wl_Mod_208 ?_
    refine N_callSI [.long z7, .long 0, .long 9] [] cs_Mod_95 d_Mod_wet_14 rfl (Nat.le_of_ble_eq_true rfl) (by decide) (by decide) (c_Mod_in h z7 vZ z7F 0 0 tl_0 9 9 tl_9) (fun z8 h9 z8Z z8E p10 => ?_)
    obtain ⟨eh9, p10⟩ := p10
    subst eh9
    refine V_if_ne 22 z8E d_Mod_wet_17 (by decide) (fun c11 => ?_) (fun c11 => ?_)
    ·
      refine V_aload_n 0 d_Mod_wet_22 rfl rfl ?_
      refine V_getR fa_Mod_7 sk_116 rfl d_Mod_wet_23 ?_
      refine V_bipush 64 d_Mod_wet_26 (by decide) ?_
      refine V_iload_n 1 d_Mod_wet_28 rfl rfl ?_
      refine V_iadd tc_64 cE (by omega) d_Mod_wet_29 (fun z12 z12e z12E => ?_)
      refine N_iald sk_117 z12E (by omega) d_Mod_wet_30 (fun z13 z13Z z13E z13e => ?_)
      refine V_if_le 39 z13E d_Mod_wet_31 (by decide) (fun c14 => ?_) (fun c14 => ?_)
      ·
        refine V_aload_n 0 d_Mod_wet_39 rfl rfl ?_
        refine V_iconst 0 d_Mod_wet_40 (by decide) ?_
        refine V_iload_n 1 d_Mod_wet_41 rfl rfl ?_
        refine V_iadd tc_0 cE (by omega) d_Mod_wet_42 (fun z15 z15e z15E => ?_)
        refine V_iload_n 2 d_Mod_wet_43 rfl rfl ?_
        refine N_callVI [.int z15, .int v] [] cv_Mod_210 sk_116 rfl d_Mod_wet_44 rfl (Nat.le_of_ble_eq_true rfl) (by decide) (by decide) (c_Mod_becomesX h hI z15 ((0 + cZ)) z15E v vZ vE (by omega) (stOk_lo vE (by omega))) (fun z16 h17 z16Z z16E p18 => ?_)
        obtain ⟨hI19, fh17, p18⟩ := p18
        have f20 : fr S_Mod_wetA h h17 := fr_call f0 fh17 rfl
        exact V_iret rfl d_Mod_wet_47 ⟨z16, rfl, ⟨hI19, f20, (nA_s nA_rf p18.1 (by omega))⟩⟩
      ·
        refine V_bipush (-2) d_Mod_wet_34 (by decide) ?_
        refine V_goto 47 d_Mod_wet_36 (by decide) ?_
        exact V_iret rfl d_Mod_wet_47 ⟨(-2), rfl, ⟨hI, f0, nA_rf⟩⟩
    ·
      refine V_iconst (-1) d_Mod_wet_20 (by decide) ?_
      exact V_iret rfl d_Mod_wet_21 ⟨(-1), rfl, ⟨hI, f0, nA_rf⟩⟩
def S_Mod_fundA : List (Nat × Option Nat) := [(117, none)]
abbrev q_Mod_fundA (h : Hp) (o : Int32) (oZ : Int) (v : Int32) (vZ : Int) : Option Value → Hp → Prop := pInt (fun r h' => Inv h' ∧ fr S_Mod_fundA h h' ∧ (nA h h'))
set_option maxRecDepth 100000 in
theorem c_Mod_fundA (h : Hp) (hI : Inv h) (o : Int32) (oZ : Int) (oE : o.toInt = oZ) (v : Int32) (vZ : Int) (vE : v.toInt = vZ) : Ct y_Mod_fund b_Mod_fund 3 (some .int) 2 45 [.ref 116, .int o, .int v] h (q_Mod_fundA h o oZ v vZ) := by
  refine ct_ow R_Mod [some (.ref 116), some (.int o), some (.int v)] rfl (by decide) rfl (Nat.le_of_ble_eq_true rfl) ?_
  have f0 : fr S_Mod_fundA h h := fr_rf
  refine V_iload_n 1 d_Mod_fund_0 rfl rfl ?_
  refine N_callSI [.int o] [] cs_Mod_205 d_Mod_fund_1 rfl (Nat.le_of_ble_eq_true rfl) (by decide) (by decide) (c_Mod_isOwner h o oZ oE) (fun z1 h2 z1Z z1E p3 => ?_)
  obtain ⟨eh2, p3⟩ := p3
  subst eh2
  refine V_if_eq 31 z1E d_Mod_fund_4 (by decide) (fun c4 => ?_) (fun c4 => ?_)
  ·
    refine V_iconst (-1) d_Mod_fund_31 (by decide) ?_
    exact V_iret rfl d_Mod_fund_32 ⟨(-1), rfl, ⟨hI, f0, nA_rf⟩⟩
  ·
    refine V_iload_n 2 d_Mod_fund_7 rfl rfl ?_
    refine V_i2l d_Mod_fund_8 (fun z5 z5e z5E => ?_)
    have z5F : z5.toInt = vZ := z5E.trans vE
    refine V_lconst 0 d_Mod_fund_9 (by decide) ?_
    refine V_ldc2 d_Mod_fund_10 wl_Mod_215 ?_
    refine N_callSI [.long z5, .long 0, .long 999] [] cs_Mod_95 d_Mod_fund_13 rfl (Nat.le_of_ble_eq_true rfl) (by decide) (by decide) (c_Mod_in h z5 vZ z5F 0 0 tl_0 999 999 tl_999) (fun z6 h7 z6Z z6E p8 => ?_)
    obtain ⟨eh7, p8⟩ := p8
    subst eh7
    refine V_if_eq 31 z6E d_Mod_fund_16 (by decide) (fun c9 => ?_) (fun c9 => ?_)
    ·
      refine V_iconst (-1) d_Mod_fund_31 (by decide) ?_
      exact V_iret rfl d_Mod_fund_32 ⟨(-1), rfl, ⟨hI, f0, nA_rf⟩⟩
    ·
      refine V_aload_n 0 d_Mod_fund_19 rfl rfl ?_
      refine V_bipush 80 d_Mod_fund_20 (by decide) ?_
      refine V_iload_n 1 d_Mod_fund_22 rfl rfl ?_
      refine V_iadd tc_80 oE (by omega) d_Mod_fund_23 (fun z10 z10e z10E => ?_)
      refine V_iload_n 2 d_Mod_fund_24 rfl rfl ?_
      refine N_callVI [.int z10, .int v] [] cv_Mod_210 sk_116 rfl d_Mod_fund_25 rfl (Nat.le_of_ble_eq_true rfl) (by decide) (by decide) (c_Mod_becomesX h hI z10 ((80 + oZ)) z10E v vZ vE (by omega) (stOk_lo vE (by omega))) (fun z11 h12 z11Z z11E p13 => ?_)
      obtain ⟨hI14, fh12, p13⟩ := p13
      have f15 : fr S_Mod_fundA h h12 := fr_call f0 fh12 rfl
      refine V_goto 32 d_Mod_fund_28 (by decide) ?_
      exact V_iret rfl d_Mod_fund_32 ⟨z11, rfl, ⟨hI14, f15, (nA_s nA_rf p13.1 (by omega))⟩⟩
def S_Mod_rainA : List (Nat × Option Nat) := [(117, none)]
abbrev q_Mod_rainA (h : Hp) (v : Int32) (vZ : Int) (w : Int32) (wZ : Int) (g : Int32) (gZ : Int) : Option Value → Hp → Prop := pInt (fun r h' => Inv h' ∧ fr S_Mod_rainA h h' ∧ (nA h h'))
set_option maxRecDepth 100000 in
theorem c_Mod_rainA (h : Hp) (hI : Inv h) (v : Int32) (vZ : Int) (vE : v.toInt = vZ) (w : Int32) (wZ : Int) (wE : w.toInt = wZ) (wK : h.1 116 2 = w) (g : Int32) (gZ : Int) (gE : g.toInt = gZ) (gK : h.1 116 3 = g) : Ct y_Mod_rain b_Mod_rain 4 (some .int) 3 64 [.ref 116, .int v] h (q_Mod_rainA h v vZ w wZ g gZ) := by
  refine ct_ow R_Mod [some (.ref 116), some (.int v), none, none] rfl (by decide) rfl (Nat.le_of_ble_eq_true rfl) ?_
  have f0 : fr S_Mod_rainA h h := fr_rf
  have g1 : 2 ≤ wZ ∧ wZ ≤ 4 := inv_at hI wE wK.symm rfl
  have g2 : 2 ≤ gZ ∧ gZ ≤ 4 := inv_at hI gE gK.symm rfl
  refine V_iload_n 1 d_Mod_rain_0 rfl rfl ?_
  refine V_i2l d_Mod_rain_1 (fun z3 z3e z3E => ?_)
  have z3F : z3.toInt = vZ := z3E.trans vE
  refine V_lconst 0 d_Mod_rain_2 (by decide) ?_
  refine V_ldc2 d_Mod_rain_3 wl_Mod_221 ?_
  refine N_callSI [.long z3, .long 0, .long 8] [] cs_Mod_95 d_Mod_rain_6 rfl (Nat.le_of_ble_eq_true rfl) (by decide) (by decide) (c_Mod_in h z3 vZ z3F 0 0 tl_0 8 8 tl_8) (fun z4 h5 z4Z z4E p6 => ?_)
  obtain ⟨eh5, p6⟩ := p6
  subst eh5
  refine V_if_ne 14 z4E d_Mod_rain_9 (by decide) (fun c7 => ?_) (fun c7 => ?_)
  ·
    refine V_iconst 0 d_Mod_rain_14 (by decide) ?_
    refine V_istore_n 2 [some (.ref 116), some (.int v), some (.int 0), none] d_Mod_rain_15 rfl (by decide) rfl rfl ?_
    have L8 : ∀ (nn : Nat) (v10 : Int32) (v10Z : Int) (h11 : Hp), v10.toInt = v10Z → Inv h11 → fr S_Mod_rainA h h11 → h11.1 116 2 = w → h11.1 116 3 = g → 0 ≤ v10Z ∧ v10Z ≤ 16 → nA h h11 → 16 - v10Z < (nn : Int) → V R_Mod b_Mod_rain 4 (some .int) 3 64 (q_Mod_rainA h v vZ w wZ g gZ) h11 16 [some (.ref 116), some (.int v), some (.int v10), none] [] := by
      intro nn
      induction nn with
      | zero => intro v10 v10Z h11 v10E Ih11 Fh11 K12 K13 q14 q15 hm16; exact absurd hm16 (by omega)
      | succ nn ihL8 =>
        intro v10 v10Z h11 v10E Ih11 Fh11 K12 K13 q14 q15 hm16
        refine V_iload_n 2 d_Mod_rain_16 rfl rfl ?_
        refine V_aload_n 0 d_Mod_rain_17 rfl rfl ?_
        refine N_callVI [] [.int v10] cv_Mod_183 sk_116 rfl d_Mod_rain_18 rfl (Nat.le_of_ble_eq_true rfl) (by decide) (by decide) (c_Mod_cellMany h11 Ih11 w wZ wE K12 g gZ gE K13) (fun z17 h18 z17Z z17E p19 => ?_)
        obtain ⟨eh18, p19⟩ := p19
        subst eh18
        refine V_icmp_ge 69 v10E z17E d_Mod_rain_21 (by decide) (fun c20 => ?_) (fun c20 => ?_)
        ·
          refine V_aload_n 0 d_Mod_rain_69 rfl rfl ?_
          refine N_callVI [] [] cv_Mod_223 sk_116 rfl d_Mod_rain_70 rfl (Nat.le_of_ble_eq_true rfl) (by decide) (by decide) (c_Mod_wells h11 Ih11 w wZ wE K12 g gZ gE K13) (fun z21 h22 z21Z z21E p23 => ?_)
          subst p23
          exact V_iret rfl d_Mod_rain_73 ⟨z21, rfl, ⟨Ih11, Fh11, (by assumption)⟩⟩
        ·
          refine V_aload_n 0 d_Mod_rain_24 rfl rfl ?_
          refine V_getR fa_Mod_7 sk_116 rfl d_Mod_rain_25 ?_
          refine V_iconst 0 d_Mod_rain_28 (by decide) ?_
          refine V_iload_n 2 d_Mod_rain_29 rfl rfl ?_
          refine V_iadd tc_0 v10E (by omega) d_Mod_rain_30 (fun z24 z24e z24E => ?_)
          refine N_iald sk_117 z24E (by omega) d_Mod_rain_31 (fun z25 z25Z z25E z25e => ?_)
          refine V_istore_n 3 [some (.ref 116), some (.int v), some (.int v10), some (.int z25)] d_Mod_rain_32 rfl (by decide) rfl rfl ?_
          refine V_aload_n 0 d_Mod_rain_33 rfl rfl ?_
          refine V_getR fa_Mod_7 sk_116 rfl d_Mod_rain_34 ?_
          refine V_iconst 0 d_Mod_rain_37 (by decide) ?_
          refine V_iload_n 2 d_Mod_rain_38 rfl rfl ?_
          refine V_iadd tc_0 v10E (by omega) d_Mod_rain_39 (fun z26 z26e z26E => ?_)
          refine V_iload_n 3 d_Mod_rain_40 rfl rfl ?_
          refine V_if_ne 48 z25E d_Mod_rain_41 (by decide) (fun c27 => ?_) (fun c27 => ?_)
          ·
            refine V_iload_n 3 d_Mod_rain_48 rfl rfl ?_
            refine V_iload_n 1 d_Mod_rain_49 rfl rfl ?_
            refine N_isubw d_Mod_rain_50 (fun z28 z28Z z28E z28e => ?_)
            refine V_iconst 1 d_Mod_rain_51 (by decide) ?_
            refine V_icmp_ge 59 z28E tc_1 d_Mod_rain_52 (by decide) (fun c29 => ?_) (fun c29 => ?_)
            ·
              refine V_iload_n 3 d_Mod_rain_59 rfl rfl ?_
              refine V_iload_n 1 d_Mod_rain_60 rfl rfl ?_
              refine N_isubw d_Mod_rain_61 (fun z30 z30Z z30E z30e => ?_)
              refine N_iast sk_117 z26E (by omega) d_Mod_rain_62 (fun h31 eh31 => ?_)
              have hI32 : Inv h31 := inv_full Ih11 eh31 (st_lo (by omega))
              have f33 : fr S_Mod_rainA h h31 := fr_put Fh11 eh31 rfl
              obtain ⟨z34, z34E, z34e⟩ : ∃ y : Int32, y.toInt = v10Z + 1 ∧ y = v10 + Int32.ofInt 1 := ⟨_, ti_add v10E (by decide) (by omega), rfl⟩
              refine V_iinc 2 [some (.ref 116), some (.int v), some (.int z34), some (.int z25)] d_Mod_rain_63 rfl z34e.symm (by decide) rfl rfl ?_
              refine V_goto 16 d_Mod_rain_66 (by decide) ?_
              refine V_drop 3 [some (.ref 116), some (.int v), some (.int z34), none] rfl ?_
              exact ihL8 z34 ((v10Z + 1)) h31 z34E hI32 f33 (kn_ne eh31 K12 (by decide)) (kn_ne eh31 K13 (by decide)) (by omega) (nA_s (by assumption) eh31 (by omega)) (by omega)
            ·
              refine V_iconst 1 d_Mod_rain_55 (by decide) ?_
              refine V_goto 62 d_Mod_rain_56 (by decide) ?_
              refine N_iast sk_117 z26E (by omega) d_Mod_rain_62 (fun h35 eh35 => ?_)
              have hI36 : Inv h35 := inv_full Ih11 eh35 (st_lo (by omega))
              have f37 : fr S_Mod_rainA h h35 := fr_put Fh11 eh35 rfl
              obtain ⟨z38, z38E, z38e⟩ : ∃ y : Int32, y.toInt = v10Z + 1 ∧ y = v10 + Int32.ofInt 1 := ⟨_, ti_add v10E (by decide) (by omega), rfl⟩
              refine V_iinc 2 [some (.ref 116), some (.int v), some (.int z38), some (.int z25)] d_Mod_rain_63 rfl z38e.symm (by decide) rfl rfl ?_
              refine V_goto 16 d_Mod_rain_66 (by decide) ?_
              refine V_drop 3 [some (.ref 116), some (.int v), some (.int z38), none] rfl ?_
              exact ihL8 z38 ((v10Z + 1)) h35 z38E hI36 f37 (kn_ne eh35 K12 (by decide)) (kn_ne eh35 K13 (by decide)) (by omega) (nA_s (by assumption) eh35 (by omega)) (by omega)
          ·
            refine V_iconst 0 d_Mod_rain_44 (by decide) ?_
            refine V_goto 62 d_Mod_rain_45 (by decide) ?_
            refine N_iast sk_117 z26E (by omega) d_Mod_rain_62 (fun h39 eh39 => ?_)
            have hI40 : Inv h39 := inv_full Ih11 eh39 (st_lo (by omega))
            have f41 : fr S_Mod_rainA h h39 := fr_put Fh11 eh39 rfl
            obtain ⟨z42, z42E, z42e⟩ : ∃ y : Int32, y.toInt = v10Z + 1 ∧ y = v10 + Int32.ofInt 1 := ⟨_, ti_add v10E (by decide) (by omega), rfl⟩
            refine V_iinc 2 [some (.ref 116), some (.int v), some (.int z42), some (.int z25)] d_Mod_rain_63 rfl z42e.symm (by decide) rfl rfl ?_
            refine V_goto 16 d_Mod_rain_66 (by decide) ?_
            refine V_drop 3 [some (.ref 116), some (.int v), some (.int z42), none] rfl ?_
            exact ihL8 z42 ((v10Z + 1)) h39 z42E hI40 f41 (kn_ne eh39 K12 (by decide)) (kn_ne eh39 K13 (by decide)) (by omega) (nA_s (by assumption) eh39 (by omega)) (by omega)
    exact L8 (Int.toNat ((16 - 0 : Int) + 1)) 0 0 h tc_0 hI f0 wK gK (by omega) nA_rf (by omega)
  ·
    refine V_iconst (-1) d_Mod_rain_12 (by decide) ?_
    exact V_iret rfl d_Mod_rain_13 ⟨(-1), rfl, ⟨hI, f0, nA_rf⟩⟩
def S_Mod_boreA : List (Nat × Option Nat) := [(117, none)]
abbrev q_Mod_boreA (h : Hp) (o : Int32) (oZ : Int) (c : Int32) (cZ : Int) (d : Int32) (dZ : Int) (w : Int32) (wZ : Int) (g : Int32) (gZ : Int) : Option Value → Hp → Prop := pInt (fun r h' => Inv h' ∧ fr S_Mod_boreA h h' ∧ (nA h h'))
set_option maxRecDepth 100000 in
theorem c_Mod_boreA (h : Hp) (hI : Inv h) (o : Int32) (oZ : Int) (oE : o.toInt = oZ) (c : Int32) (cZ : Int) (cE : c.toInt = cZ) (d : Int32) (dZ : Int) (dE : d.toInt = dZ) (w : Int32) (wZ : Int) (wE : w.toInt = wZ) (wK : h.1 116 2 = w) (g : Int32) (gZ : Int) (gE : g.toInt = gZ) (gK : h.1 116 3 = g) : Ct y_Mod_bore b_Mod_bore 9 (some .int) 2 46 [.ref 116, .int o, .int c, .int d] h (q_Mod_boreA h o oZ c cZ d dZ w wZ g gZ) := by
  refine ct_ow R_Mod [some (.ref 116), some (.int o), some (.int c), some (.int d), none, none, none, none, none] rfl (by decide) rfl (Nat.le_of_ble_eq_true rfl) ?_
  have f0 : fr S_Mod_boreA h h := fr_rf
  have g1 : 2 ≤ wZ ∧ wZ ≤ 4 := inv_at hI wE wK.symm rfl
  have g2 : 2 ≤ gZ ∧ gZ ≤ 4 := inv_at hI gE gK.symm rfl
  refine V_iload_n 1 d_Mod_bore_0 rfl rfl ?_
  refine N_callSI [.int o] [] cs_Mod_205 d_Mod_bore_1 rfl (Nat.le_of_ble_eq_true rfl) (by decide) (by decide) (c_Mod_isOwner h o oZ oE) (fun z3 h4 z3Z z3E p5 => ?_)
  obtain ⟨eh4, p5⟩ := p5
  subst eh4
  refine V_if_eq 27 z3E d_Mod_bore_4 (by decide) (fun c6 => ?_) (fun c6 => ?_)
  ·
    refine V_iconst (-1) d_Mod_bore_27 (by decide) ?_
    exact V_iret rfl d_Mod_bore_28 ⟨(-1), rfl, ⟨hI, f0, nA_rf⟩⟩
  ·
    refine V_aload_n 0 d_Mod_bore_7 rfl rfl ?_
    refine V_iload_n 2 d_Mod_bore_8 rfl rfl ?_
    refine N_callVI [.int c] [] cv_Mod_200 sk_116 rfl d_Mod_bore_9 rfl (Nat.le_of_ble_eq_true rfl) (by decide) (by decide) (c_Mod_isCellX h hI c cZ cE w wZ wE wK g gZ gE gK) (fun z7 h8 z7Z z7E p9 => ?_)
    obtain ⟨eh8, p9⟩ := p9
    subst eh8
    refine V_if_eq 27 z7E d_Mod_bore_12 (by decide) (fun c10 => ?_) (fun c10 => ?_)
    ·
      refine V_iconst (-1) d_Mod_bore_27 (by decide) ?_
      exact V_iret rfl d_Mod_bore_28 ⟨(-1), rfl, ⟨hI, f0, nA_rf⟩⟩
    ·
      refine V_iload_n 3 d_Mod_bore_15 rfl rfl ?_
      refine V_i2l d_Mod_bore_16 (fun z11 z11e z11E => ?_)
      have z11F : z11.toInt = dZ := z11E.trans dE
      refine V_lconst 1 d_Mod_bore_17 (by decide) ?_
      refine V_ldc2 d_Mod_bore_18 wl_Mod_208 ?_
      refine N_callSI [.long z11, .long 1, .long 9] [] cs_Mod_95 d_Mod_bore_21 rfl (Nat.le_of_ble_eq_true rfl) (by decide) (by decide) (c_Mod_in h z11 dZ z11F 1 1 tl_1 9 9 tl_9) (fun z12 h13 z12Z z12E p14 => ?_)
      obtain ⟨eh13, p14⟩ := p14
      subst eh13
      refine V_if_ne 29 z12E d_Mod_bore_24 (by decide) (fun c15 => ?_) (fun c15 => ?_)
      ·
        have J16 : ∀ (v18 : Int32) (v18Z : Int), v18.toInt = v18Z → V R_Mod b_Mod_bore 9 (some .int) 2 46 (q_Mod_boreA h o oZ c cZ d dZ w wZ g gZ) h 59 [some (.ref 116), some (.int o), some (.int c), some (.int d), some (.int v18), none, none, none, none] [] := by
          intro v18 v18Z v18E
          refine V_aload_n 0 d_Mod_bore_59 rfl rfl ?_
          refine V_getR fa_Mod_7 sk_116 rfl d_Mod_bore_60 ?_
          refine V_bipush 64 d_Mod_bore_63 (by decide) ?_
          refine V_iload_n 2 d_Mod_bore_65 rfl rfl ?_
          refine V_iadd tc_64 cE (by omega) d_Mod_bore_66 (fun z19 z19e z19E => ?_)
          refine N_iald sk_117 z19E (by omega) d_Mod_bore_67 (fun z20 z20Z z20E z20e => ?_)
          refine V_iload d_Mod_bore_68 rfl ?_
          refine N_iaddw d_Mod_bore_70 (fun z21 z21Z z21E z21e => ?_)
          refine V_istore 5 [some (.ref 116), some (.int o), some (.int c), some (.int d), some (.int v18), some (.int z21), none, none, none] d_Mod_bore_71 (by decide) rfl rfl ?_
          refine V_aload_n 0 d_Mod_bore_73 rfl rfl ?_
          refine V_getR fa_Mod_7 sk_116 rfl d_Mod_bore_74 ?_
          refine V_bipush 80 d_Mod_bore_77 (by decide) ?_
          refine V_iload_n 1 d_Mod_bore_79 rfl rfl ?_
          refine V_iadd tc_80 oE (by omega) d_Mod_bore_80 (fun z22 z22e z22E => ?_)
          refine N_iald sk_117 z22E (by omega) d_Mod_bore_81 (fun z23 z23Z z23E z23e => ?_)
          refine V_aload_n 0 d_Mod_bore_82 rfl rfl ?_
          refine N_getI fa_Mod_87 sk_116 rfl d_Mod_bore_83 (fun z24 z24Z z24E z24e => ?_)
          refine V_iload d_Mod_bore_86 rfl ?_
          refine N_imulw d_Mod_bore_88 (fun z25 z25Z z25E z25e => ?_)
          refine N_isubw d_Mod_bore_89 (fun z26 z26Z z26E z26e => ?_)
          refine V_istore 6 [some (.ref 116), some (.int o), some (.int c), some (.int d), some (.int v18), some (.int z21), some (.int z26), none, none] d_Mod_bore_90 (by decide) rfl rfl ?_
          have J27 : ∀ (v29 : Int32) (v29Z : Int), v29.toInt = v29Z → V R_Mod b_Mod_bore 9 (some .int) 2 46 (q_Mod_boreA h o oZ c cZ d dZ w wZ g gZ) h 123 [some (.ref 116), some (.int o), some (.int c), some (.int d), some (.int v18), some (.int z21), some (.int z26), some (.int v29), none] [] := by
            intro v29 v29Z v29E
            have J30 : ∀ (v32 : Int32) (v32Z : Int), v32.toInt = v32Z → V R_Mod b_Mod_bore 9 (some .int) 2 46 (q_Mod_boreA h o oZ c cZ d dZ w wZ g gZ) h 142 [some (.ref 116), some (.int o), some (.int c), some (.int d), some (.int v18), some (.int z21), some (.int z26), some (.int v29), some (.int v32)] [] := by
              intro v32 v32Z v32E
              refine V_aload_n 0 d_Mod_bore_142 rfl rfl ?_
              refine V_getR fa_Mod_7 sk_116 rfl d_Mod_bore_143 ?_
              refine V_bipush 48 d_Mod_bore_146 (by decide) ?_
              refine V_iload_n 2 d_Mod_bore_148 rfl rfl ?_
              refine V_iadd tc_48 cE (by omega) d_Mod_bore_149 (fun z33 z33e z33E => ?_)
              refine N_iald sk_117 z33E (by omega) d_Mod_bore_150 (fun z34 z34Z z34E z34e => ?_)
              refine V_iload_n 1 d_Mod_bore_151 rfl rfl ?_
              refine V_icmp_ne 168 z34E oE d_Mod_bore_152 (by decide) (fun c35 => ?_) (fun c35 => ?_)
              ·
                refine V_bipush (-2) d_Mod_bore_168 (by decide) ?_
                exact V_iret rfl d_Mod_bore_170 ⟨(-2), rfl, ⟨hI, f0, nA_rf⟩⟩
              ·
                refine V_iload d_Mod_bore_155 rfl ?_
                refine V_if_lt 168 z26E d_Mod_bore_157 (by decide) (fun c36 => ?_) (fun c36 => ?_)
                ·
                  refine V_bipush (-2) d_Mod_bore_168 (by decide) ?_
                  exact V_iret rfl d_Mod_bore_170 ⟨(-2), rfl, ⟨hI, f0, nA_rf⟩⟩
                ·
                  refine V_iload d_Mod_bore_160 rfl ?_
                  refine V_sipush 999 d_Mod_bore_162 (by decide) ?_
                  refine V_icmp_le 171 v32E tc_999 d_Mod_bore_165 (by decide) (fun c37 => ?_) (fun c37 => ?_)
                  ·
                    refine V_aload_n 0 d_Mod_bore_171 rfl rfl ?_
                    refine V_getR fa_Mod_7 sk_116 rfl d_Mod_bore_172 ?_
                    refine V_bipush 80 d_Mod_bore_175 (by decide) ?_
                    refine V_iload_n 1 d_Mod_bore_177 rfl rfl ?_
                    refine V_iadd tc_80 oE (by omega) d_Mod_bore_178 (fun z38 z38e z38E => ?_)
                    refine V_iload d_Mod_bore_179 rfl ?_
                    refine N_iast sk_117 z38E (by omega) d_Mod_bore_181 (fun h39 eh39 => ?_)
                    have hI40 : Inv h39 := inv_full hI eh39 (st_lo (by omega))
                    have f41 : fr S_Mod_boreA h h39 := fr_put f0 eh39 rfl
                    refine V_aload_n 0 d_Mod_bore_182 rfl rfl ?_
                    refine V_getR fa_Mod_7 sk_116 rfl d_Mod_bore_183 ?_
                    refine V_bipush 64 d_Mod_bore_186 (by decide) ?_
                    refine V_iload_n 2 d_Mod_bore_188 rfl rfl ?_
                    refine V_iadd tc_64 cE (by omega) d_Mod_bore_189 (fun z42 z42e z42E => ?_)
                    refine V_iload d_Mod_bore_190 rfl ?_
                    refine N_iast sk_117 z42E (by omega) d_Mod_bore_192 (fun h43 eh43 => ?_)
                    have hI44 : Inv h43 := inv_full hI40 eh43 (st_lo (by omega))
                    have f45 : fr S_Mod_boreA h h43 := fr_put f41 eh43 rfl
                    refine V_aload_n 0 d_Mod_bore_193 rfl rfl ?_
                    refine V_iload_n 2 d_Mod_bore_194 rfl rfl ?_
                    refine N_callVI [.int c] [] cv_Mod_192 sk_116 rfl d_Mod_bore_195 rfl (Nat.le_of_ble_eq_true rfl) (by decide) (by decide) (c_Mod_isWell h43 hI44 c cZ cE (by omega)) (fun z46 h47 z46Z z46E p48 => ?_)
                    obtain ⟨eh47, p48⟩ := p48
                    subst eh47
                    refine N_callSI [.int z46] [] cs_Mod_196 d_Mod_bore_198 rfl (Nat.le_of_ble_eq_true rfl) (by decide) (by decide) (c_Mod_flag h43 z46 z46Z z46E) (fun z49 h50 z49Z z49E p51 => ?_)
                    obtain ⟨eh50, p51⟩ := p51
                    subst eh50
                    exact V_iret rfl d_Mod_bore_201 ⟨z49, rfl, ⟨hI44, f45, (nA_s (nA_s nA_rf eh39 (by omega)) eh43 (by omega))⟩⟩
                  ·
                    refine V_bipush (-2) d_Mod_bore_168 (by decide) ?_
                    exact V_iret rfl d_Mod_bore_170 ⟨(-2), rfl, ⟨hI, f0, nA_rf⟩⟩
            refine V_iload d_Mod_bore_123 rfl ?_
            refine V_if_eq 138 v29E d_Mod_bore_125 (by decide) (fun c52 => ?_) (fun c52 => ?_)
            ·
              refine V_iload d_Mod_bore_138 rfl ?_
              refine V_istore 8 [some (.ref 116), some (.int o), some (.int c), some (.int d), some (.int v18), some (.int z21), some (.int z26), some (.int v29), some (.int z26)] d_Mod_bore_140 (by decide) rfl rfl ?_
              exact J30 z26 z26Z z26E
            ·
              refine V_iload d_Mod_bore_128 rfl ?_
              refine V_aload_n 0 d_Mod_bore_130 rfl rfl ?_
              refine N_getI fa_Mod_90 sk_116 rfl d_Mod_bore_131 (fun z53 z53Z z53E z53e => ?_)
              refine N_iaddw d_Mod_bore_134 (fun z54 z54Z z54E z54e => ?_)
              refine V_goto 140 d_Mod_bore_135 (by decide) ?_
              refine V_istore 8 [some (.ref 116), some (.int o), some (.int c), some (.int d), some (.int v18), some (.int z21), some (.int z26), some (.int v29), some (.int z54)] d_Mod_bore_140 (by decide) rfl rfl ?_
              exact J30 z54 z54Z z54E
          refine V_aload_n 0 d_Mod_bore_92 rfl rfl ?_
          refine V_iload_n 2 d_Mod_bore_93 rfl rfl ?_
          refine N_callVI [.int c] [] cv_Mod_192 sk_116 rfl d_Mod_bore_94 rfl (Nat.le_of_ble_eq_true rfl) (by decide) (by decide) (c_Mod_isWell h hI c cZ cE (by omega)) (fun z55 h56 z55Z z55E p57 => ?_)
          obtain ⟨eh56, p57⟩ := p57
          subst eh56
          refine V_if_ne 120 z55E d_Mod_bore_97 (by decide) (fun c58 => ?_) (fun c58 => ?_)
          ·
            refine V_iconst 0 d_Mod_bore_120 (by decide) ?_
            refine V_istore 7 [some (.ref 116), some (.int o), some (.int c), some (.int d), some (.int v18), some (.int z21), some (.int z26), some (.int 0), none] d_Mod_bore_121 (by decide) rfl rfl ?_
            exact J27 0 0 tc_0
          ·
            refine V_aload_n 0 d_Mod_bore_100 rfl rfl ?_
            refine V_getR fa_Mod_7 sk_116 rfl d_Mod_bore_101 ?_
            refine V_iconst 0 d_Mod_bore_104 (by decide) ?_
            refine V_iload_n 2 d_Mod_bore_105 rfl rfl ?_
            refine V_iadd tc_0 cE (by omega) d_Mod_bore_106 (fun z59 z59e z59E => ?_)
            refine N_iald sk_117 z59E (by omega) d_Mod_bore_107 (fun z60 z60Z z60E z60e => ?_)
            refine V_iload d_Mod_bore_108 rfl ?_
            refine N_callSI [.int z60, .int z21] [] cs_Mod_188 d_Mod_bore_110 rfl (Nat.le_of_ble_eq_true rfl) (by decide) (by decide) (c_Mod_isWellBy h z60 z60Z z60E z21 z21Z z21E) (fun z61 h62 z61Z z61E p63 => ?_)
            obtain ⟨eh62, p63⟩ := p63
            subst eh62
            refine V_if_eq 120 z61E d_Mod_bore_113 (by decide) (fun c64 => ?_) (fun c64 => ?_)
            ·
              refine V_iconst 0 d_Mod_bore_120 (by decide) ?_
              refine V_istore 7 [some (.ref 116), some (.int o), some (.int c), some (.int d), some (.int v18), some (.int z21), some (.int z26), some (.int 0), none] d_Mod_bore_121 (by decide) rfl rfl ?_
              exact J27 0 0 tc_0
            ·
              refine V_iconst 1 d_Mod_bore_116 (by decide) ?_
              refine V_goto 121 d_Mod_bore_117 (by decide) ?_
              refine V_istore 7 [some (.ref 116), some (.int o), some (.int c), some (.int d), some (.int v18), some (.int z21), some (.int z26), some (.int 1), none] d_Mod_bore_121 (by decide) rfl rfl ?_
              exact J27 1 1 tc_1
        refine V_iload_n 3 d_Mod_bore_29 rfl rfl ?_
        refine V_aload_n 0 d_Mod_bore_30 rfl rfl ?_
        refine V_getR fa_Mod_7 sk_116 rfl d_Mod_bore_31 ?_
        refine V_bipush 64 d_Mod_bore_34 (by decide) ?_
        refine V_iload_n 2 d_Mod_bore_36 rfl rfl ?_
        refine V_iadd tc_64 cE (by omega) d_Mod_bore_37 (fun z65 z65e z65E => ?_)
        refine N_iald sk_117 z65E (by omega) d_Mod_bore_38 (fun z66 z66Z z66E z66e => ?_)
        refine V_icmp_le 56 dE z66E d_Mod_bore_39 (by decide) (fun c67 => ?_) (fun c67 => ?_)
        ·
          refine V_iconst 0 d_Mod_bore_56 (by decide) ?_
          refine V_istore 4 [some (.ref 116), some (.int o), some (.int c), some (.int d), some (.int 0), none, none, none, none] d_Mod_bore_57 (by decide) rfl rfl ?_
          exact J16 0 0 tc_0
        ·
          refine V_iload_n 3 d_Mod_bore_42 rfl rfl ?_
          refine V_aload_n 0 d_Mod_bore_43 rfl rfl ?_
          refine V_getR fa_Mod_7 sk_116 rfl d_Mod_bore_44 ?_
          refine V_bipush 64 d_Mod_bore_47 (by decide) ?_
          refine V_iload_n 2 d_Mod_bore_49 rfl rfl ?_
          refine V_iadd tc_64 cE (by omega) d_Mod_bore_50 (fun z68 z68e z68E => ?_)
          refine N_iald sk_117 z68E (by omega) d_Mod_bore_51 (fun z69 z69Z z69E z69e => ?_)
          refine N_isubw d_Mod_bore_52 (fun z70 z70Z z70E z70e => ?_)
          refine V_goto 57 d_Mod_bore_53 (by decide) ?_
          refine V_istore 4 [some (.ref 116), some (.int o), some (.int c), some (.int d), some (.int z70), none, none, none, none] d_Mod_bore_57 (by decide) rfl rfl ?_
          exact J16 z70 z70Z z70E
      ·
        refine V_iconst (-1) d_Mod_bore_27 (by decide) ?_
        exact V_iret rfl d_Mod_bore_28 ⟨(-1), rfl, ⟨hI, f0, nA_rf⟩⟩
def S_Mod_readA : List (Nat × Option Nat) := [(117, none), (131, none), (116, some 35)]
abbrev q_Mod_readA (h : Hp) (k : Int32) (kZ : Int) (l : Int32) (lZ : Int) (f : Int32) (fZ : Int) (n : Int32) (nZ : Int) (w : Int32) (wZ : Int) (g : Int32) (gZ : Int) : Option Value → Hp → Prop := pInt (fun r h' => Inv h' ∧ fr S_Mod_readA h h' ∧ (nA h h'))
set_option maxRecDepth 100000 in
theorem c_Mod_readA (h : Hp) (hI : Inv h) (k : Int32) (kZ : Int) (kE : k.toInt = kZ) (l : Int32) (lZ : Int) (lE : l.toInt = lZ) (f : Int32) (fZ : Int) (fE : f.toInt = fZ) (n : Int32) (nZ : Int) (nE : n.toInt = nZ) (w : Int32) (wZ : Int) (wE : w.toInt = wZ) (wK : h.1 116 2 = w) (g : Int32) (gZ : Int) (gE : g.toInt = gZ) (gK : h.1 116 3 = g) : Ct y_Mod_read b_Mod_read 11 (some .int) 3 74 [.ref 116, .int k, .int l, .int f, .int n] h (q_Mod_readA h k kZ l lZ f fZ n nZ w wZ g gZ) := by
  refine ct_ow R_Mod [some (.ref 116), some (.int k), some (.int l), some (.int f), some (.int n), none, none, none, none, none, none] rfl (by decide) rfl (Nat.le_of_ble_eq_true rfl) ?_
  have f0 : fr S_Mod_readA h h := fr_rf
  have g1 : 2 ≤ wZ ∧ wZ ≤ 4 := inv_at hI wE wK.symm rfl
  have g2 : 2 ≤ gZ ∧ gZ ≤ 4 := inv_at hI gE gK.symm rfl
  obtain ⟨sv, svZ, svE, svK⟩ : ∃ (y : Int32) (Y : Int), y.toInt = Y ∧ y = h.1 129 kZ.toNat := ⟨_, _, rfl, rfl⟩
  have svB : 0 ≤ svZ ∧ svZ ≤ 40 := inv_at hI svE svK rfl
  have fB := And.intro (ti_lo f) (ti_hi f)
  rw [fE] at fB
  refine V_iload_n 1 d_Mod_read_0 rfl rfl ?_
  refine V_iload_n 2 d_Mod_read_1 rfl rfl ?_
  refine N_callSI [.int k, .int l] [] cs_Mod_322 d_Mod_read_2 rfl (Nat.le_of_ble_eq_true rfl) (by decide) (by decide) (c_Mod_isSheet h k kZ kE l lZ lE) (fun z3 h4 z3Z z3E p5 => ?_)
  obtain ⟨eh4, p5⟩ := p5
  subst eh4
  refine V_if_eq 21 z3E d_Mod_read_5 (by decide) (fun c6 => ?_) (fun c6 => ?_)
  ·
    refine V_iconst (-1) d_Mod_read_21 (by decide) ?_
    exact V_iret rfl d_Mod_read_22 ⟨(-1), rfl, ⟨hI, f0, nA_rf⟩⟩
  ·
    refine V_iload d_Mod_read_8 rfl ?_
    refine V_i2l d_Mod_read_10 (fun z7 z7e z7E => ?_)
    have z7F : z7.toInt = nZ := z7E.trans nE
    refine V_lconst 0 d_Mod_read_11 (by decide) ?_
    refine V_ldc2 d_Mod_read_12 wl_Mod_275 ?_
    refine N_callSI [.long z7, .long 0, .long 13] [] cs_Mod_95 d_Mod_read_15 rfl (Nat.le_of_ble_eq_true rfl) (by decide) (by decide) (c_Mod_in h z7 nZ z7F 0 0 tl_0 13 13 tl_13) (fun z8 h9 z8Z z8E p10 => ?_)
    obtain ⟨eh9, p10⟩ := p10
    subst eh9
    refine V_if_ne 23 z8E d_Mod_read_18 (by decide) (fun c11 => ?_) (fun c11 => ?_)
    ·
      refine V_iconst 0 d_Mod_read_23 (by decide) ?_
      refine V_istore 5 [some (.ref 116), some (.int k), some (.int l), some (.int f), some (.int n), some (.int 0), none, none, none, none, none] d_Mod_read_24 (by decide) rfl rfl ?_
      have L12 : ∀ (nn : Nat) (v14 : Int32) (v14Z : Int) (h15 : Hp), v14.toInt = v14Z → Inv h15 → fr S_Mod_readA h h15 → h15.1 116 2 = w → h15.1 116 3 = g → 0 ≤ v14Z ∧ v14Z ≤ 20 → nA h h15 → 20 - v14Z < (nn : Int) → V R_Mod b_Mod_read 11 (some .int) 3 74 (q_Mod_readA h k kZ l lZ f fZ n nZ w wZ g gZ) h15 26 [some (.ref 116), some (.int k), some (.int l), some (.int f), some (.int n), some (.int v14), none, none, none, none, none] [] := by
        intro nn
        induction nn with
        | zero => intro v14 v14Z h15 v14E Ih15 Fh15 K16 K17 q18 q19 hm20; exact absurd hm20 (by omega)
        | succ nn ihL12 =>
          intro v14 v14Z h15 v14E Ih15 Fh15 K16 K17 q18 q19 hm20
          have na9 : nA h h15 := by assumption
          refine V_iload d_Mod_read_26 rfl ?_
          refine V_bipush 20 d_Mod_read_28 (by decide) ?_
          refine V_icmp_ge 56 v14E tc_20 d_Mod_read_30 (by decide) (fun c21 => ?_) (fun c21 => ?_)
          ·
            refine V_iconst 0 d_Mod_read_56 (by decide) ?_
            refine V_istore 5 [some (.ref 116), some (.int k), some (.int l), some (.int f), some (.int n), some (.int 0), none, none, none, none, none] d_Mod_read_57 (by decide) rfl rfl ?_
            refine V_iconst 0 d_Mod_read_59 (by decide) ?_
            refine V_istore 6 [some (.ref 116), some (.int k), some (.int l), some (.int f), some (.int n), some (.int 0), some (.int 0), none, none, none, none] d_Mod_read_60 (by decide) rfl rfl ?_
            refine V_iconst 0 d_Mod_read_62 (by decide) ?_
            refine V_istore 7 [some (.ref 116), some (.int k), some (.int l), some (.int f), some (.int n), some (.int 0), some (.int 0), some (.int 0), none, none, none] d_Mod_read_63 (by decide) rfl rfl ?_
            have L22 : ∀ (nn : Nat) (v24 : Int32) (v24Z : Int) (v25 : Int32) (v25Z : Int) (v26 : Int32) (v26Z : Int) (h27 : Hp), v24.toInt = v24Z → v25.toInt = v25Z → v26.toInt = v26Z → Inv h27 → fr S_Mod_readA h h27 → h27.1 116 2 = w → h27.1 116 3 = g → 0 ≤ v26Z ∧ v26Z ≤ nZ → 0 ≤ v25Z ∧ v25Z ≤ v26Z → nA h h27 → nZ - v26Z < (nn : Int) → V R_Mod b_Mod_read 11 (some .int) 3 74 (q_Mod_readA h k kZ l lZ f fZ n nZ w wZ g gZ) h27 65 [some (.ref 116), some (.int k), some (.int l), some (.int f), some (.int n), some (.int v24), some (.int v25), some (.int v26), none, none, none] [] := by
              intro nn
              induction nn with
              | zero => intro v24 v24Z v25 v25Z v26 v26Z h27 v24E v25E v26E Ih27 Fh27 K28 K29 q30 q31 q32 hm33; exact absurd hm33 (by omega)
              | succ nn ihL22 =>
                intro v24 v24Z v25 v25Z v26 v26Z h27 v24E v25E v26E Ih27 Fh27 K28 K29 q30 q31 q32 hm33
                have na9 : nA h h27 := by assumption
                refine V_iload d_Mod_read_65 rfl ?_
                refine V_iload d_Mod_read_67 rfl ?_
                refine V_icmp_ge 265 v26E nE d_Mod_read_69 (by decide) (fun c34 => ?_) (fun c34 => ?_)
                ·
                  refine V_aload_n 0 d_Mod_read_265 rfl rfl ?_
                  refine V_iload d_Mod_read_266 rfl ?_
                  refine N_putI fp_Mod_328 sk_116 rfl d_Mod_read_268 (fun h35 eh35 => ?_)
                  have hI36 : Inv h35 := inv_full Ih27 eh35 rfl
                  have f37 : fr S_Mod_readA h h35 := fr_put Fh27 eh35 rfl
                  have N38 : nA h h35 := nA_s na9 eh35 (by omega)
                  refine V_iload d_Mod_read_271 rfl ?_
                  exact V_iret rfl d_Mod_read_273 ⟨v25, rfl, ⟨hI36, f37, N38⟩⟩
                ·
                  refine V_iload d_Mod_read_72 rfl ?_
                  refine V_if_ne 265 v24E d_Mod_read_74 (by decide) (fun c39 => ?_) (fun c39 => ?_)
                  ·
                    refine V_aload_n 0 d_Mod_read_265 rfl rfl ?_
                    refine V_iload d_Mod_read_266 rfl ?_
                    refine N_putI fp_Mod_328 sk_116 rfl d_Mod_read_268 (fun h40 eh40 => ?_)
                    have hI41 : Inv h40 := inv_full Ih27 eh40 rfl
                    have f42 : fr S_Mod_readA h h40 := fr_put Fh27 eh40 rfl
                    have N43 : nA h h40 := nA_s na9 eh40 (by omega)
                    refine V_iload d_Mod_read_271 rfl ?_
                    exact V_iret rfl d_Mod_read_273 ⟨v25, rfl, ⟨hI41, f42, N43⟩⟩
                  ·
                    refine V_iconst 0 d_Mod_read_77 (by decide) ?_
                    refine V_istore 8 [some (.ref 116), some (.int k), some (.int l), some (.int f), some (.int n), some (.int v24), some (.int v25), some (.int v26), some (.int 0), none, none] d_Mod_read_78 (by decide) rfl rfl ?_
                    have L44 : ∀ (nn : Nat) (v46 : Int32) (v46Z : Int) (v47 : Int32) (v47Z : Int), v46.toInt = v46Z → v47.toInt = v47Z → 0 ≤ v47Z ∧ v47Z ≤ 3 → v46Z ≠ 0 ∨ v47Z = 0 ∨ 0 ≤ fZ + 3 * v26Z ∧ fZ + 3 * v26Z + v47Z - 1 < svZ → 3 - v47Z < (nn : Int) → V R_Mod b_Mod_read 11 (some .int) 3 74 (q_Mod_readA h k kZ l lZ f fZ n nZ w wZ g gZ) h27 80 [some (.ref 116), some (.int k), some (.int l), some (.int f), some (.int n), some (.int v46), some (.int v25), some (.int v26), some (.int v47), none, none] [] := by
                      intro nn
                      induction nn with
                      | zero => intro v46 v46Z v47 v47Z v46E v47E q48 q49 hm50; exact absurd hm50 (by omega)
                      | succ nn ihL44 =>
                        intro v46 v46Z v47 v47Z v46E v47E q48 q49 hm50
                        refine V_iload d_Mod_read_80 rfl ?_
                        refine V_iconst 3 d_Mod_read_82 (by decide) ?_
                        refine V_icmp_ge 167 v47E tc_3 d_Mod_read_83 (by decide) (fun c51 => ?_) (fun c51 => ?_)
                        ·
                          refine V_iload d_Mod_read_167 rfl ?_
                          refine V_if_ne 259 v46E d_Mod_read_169 (by decide) (fun c52 => ?_) (fun c52 => ?_)
                          ·
                            obtain ⟨z53, z53E, z53e⟩ : ∃ y : Int32, y.toInt = v26Z + 1 ∧ y = v26 + Int32.ofInt 1 := ⟨_, ti_add v26E (by decide) (by omega), rfl⟩
                            refine V_iinc 7 [some (.ref 116), some (.int k), some (.int l), some (.int f), some (.int n), some (.int v46), some (.int v25), some (.int z53), some (.int v47), none, none] d_Mod_read_259 rfl z53e.symm (by decide) rfl rfl ?_
                            refine V_goto 65 d_Mod_read_262 (by decide) ?_
                            refine V_drop 8 [some (.ref 116), some (.int k), some (.int l), some (.int f), some (.int n), some (.int v46), some (.int v25), some (.int z53), none, none, none] rfl ?_
                            exact ihL22 v46 v46Z v25 v25Z z53 ((v26Z + 1)) h27 v46E v25E z53E Ih27 Fh27 K28 K29 (by omega) (by omega) na9 (by omega)
                          ·
                            refine V_bipush 40 d_Mod_read_172 (by decide) ?_
                            refine V_iload_n 1 d_Mod_read_174 rfl rfl ?_
                            refine V_imul tc_40 kE (by omega) d_Mod_read_175 (fun z54 z54e z54E => ?_)
                            refine V_iload_n 3 d_Mod_read_176 rfl rfl ?_
                            refine V_iadd z54E fE (by omega) d_Mod_read_177 (fun z55 z55e z55E => ?_)
                            refine V_iconst 3 d_Mod_read_178 (by decide) ?_
                            refine V_iload d_Mod_read_179 rfl ?_
                            refine V_imul tc_3 v26E (by omega) d_Mod_read_181 (fun z56 z56e z56E => ?_)
                            refine V_iadd z55E z56E (by omega) d_Mod_read_182 (fun z57 z57e z57E => ?_)
                            refine V_istore 8 [some (.ref 116), some (.int k), some (.int l), some (.int f), some (.int n), some (.int v46), some (.int v25), some (.int v26), some (.int z57), none, none] d_Mod_read_183 (by decide) rfl rfl ?_
                            refine V_aload_n 0 d_Mod_read_185 rfl rfl ?_
                            refine V_aload_n 0 d_Mod_read_186 rfl rfl ?_
                            refine V_getR fa_Mod_50 sk_116 rfl d_Mod_read_187 ?_
                            refine V_iload d_Mod_read_190 rfl ?_
                            refine N_iald sk_130 z57E (by omega) d_Mod_read_192 (fun z58 z58Z z58E z58e => ?_)
                            refine V_aload_n 0 d_Mod_read_193 rfl rfl ?_
                            refine V_getR fa_Mod_50 sk_116 rfl d_Mod_read_194 ?_
                            refine V_iload d_Mod_read_197 rfl ?_
                            refine V_iconst 1 d_Mod_read_199 (by decide) ?_
                            refine V_iadd z57E tc_1 (by omega) d_Mod_read_200 (fun z59 z59e z59E => ?_)
                            refine N_iald sk_130 z59E (by omega) d_Mod_read_201 (fun z60 z60Z z60E z60e => ?_)
                            refine V_aload_n 0 d_Mod_read_202 rfl rfl ?_
                            refine V_getR fa_Mod_50 sk_116 rfl d_Mod_read_203 ?_
                            refine V_iload d_Mod_read_206 rfl ?_
                            refine V_iconst 2 d_Mod_read_208 (by decide) ?_
                            refine V_iadd z57E tc_2 (by omega) d_Mod_read_209 (fun z61 z61e z61E => ?_)
                            refine N_iald sk_130 z61E (by omega) d_Mod_read_210 (fun z62 z62Z z62E z62e => ?_)
                            refine N_callVI [.int z58, .int z60, .int z62] [] cv_Mod_325 sk_116 rfl d_Mod_read_211 rfl (Nat.le_of_ble_eq_true rfl) (by decide) (by decide) (c_Mod_boreA h27 Ih27 z58 z58Z z58E z60 z60Z z60E z62 z62Z z62E w wZ wE K28 g gZ gE K29) (fun z63 h64 z63Z z63E p65 => ?_)
                            obtain ⟨hI66, fh64, p65⟩ := p65
                            have f67 : fr S_Mod_readA h h64 := fr_call Fh27 fh64 rfl
                            have N68 : nA h h64 := nA_t na9 p65
                            refine V_if_ge 256 z63E d_Mod_read_214 (by decide) (fun c69 => ?_) (fun c69 => ?_)
                            ·
                              obtain ⟨z70, z70E, z70e⟩ : ∃ y : Int32, y.toInt = v25Z + 1 ∧ y = v25 + Int32.ofInt 1 := ⟨_, ti_add v25E (by decide) (by omega), rfl⟩
                              refine V_iinc 6 [some (.ref 116), some (.int k), some (.int l), some (.int f), some (.int n), some (.int v46), some (.int z70), some (.int v26), some (.int z57), none, none] d_Mod_read_256 rfl z70e.symm (by decide) rfl rfl ?_
                              obtain ⟨z71, z71E, z71e⟩ : ∃ y : Int32, y.toInt = v26Z + 1 ∧ y = v26 + Int32.ofInt 1 := ⟨_, ti_add v26E (by decide) (by omega), rfl⟩
                              refine V_iinc 7 [some (.ref 116), some (.int k), some (.int l), some (.int f), some (.int n), some (.int v46), some (.int z70), some (.int z71), some (.int z57), none, none] d_Mod_read_259 rfl z71e.symm (by decide) rfl rfl ?_
                              refine V_goto 65 d_Mod_read_262 (by decide) ?_
                              refine V_drop 8 [some (.ref 116), some (.int k), some (.int l), some (.int f), some (.int n), some (.int v46), some (.int z70), some (.int z71), none, none, none] rfl ?_
                              exact ihL22 v46 v46Z z70 ((v25Z + 1)) z71 ((v26Z + 1)) h64 v46E z70E z71E hI66 f67 (kn_call fh64 K28 rfl) (kn_call fh64 K29 rfl) (by omega) (by omega) N68 (by omega)
                            ·
                              refine V_iconst 0 d_Mod_read_217 (by decide) ?_
                              refine V_istore 9 [some (.ref 116), some (.int k), some (.int l), some (.int f), some (.int n), some (.int v46), some (.int v25), some (.int v26), some (.int z57), some (.int 0), none] d_Mod_read_218 (by decide) rfl rfl ?_
                              have L72 : ∀ (nn : Nat) (v74 : Int32) (v74Z : Int) (h75 : Hp), v74.toInt = v74Z → Inv h75 → fr S_Mod_readA h h75 → h75.1 116 2 = w → h75.1 116 3 = g → 0 ≤ v74Z ∧ v74Z ≤ 20 → nA h h75 → 20 - v74Z < (nn : Int) → V R_Mod b_Mod_read 11 (some .int) 3 74 (q_Mod_readA h k kZ l lZ f fZ n nZ w wZ g gZ) h75 220 [some (.ref 116), some (.int k), some (.int l), some (.int f), some (.int n), some (.int v46), some (.int v25), some (.int v26), some (.int z57), some (.int v74), none] [] := by
                                intro nn
                                induction nn with
                                | zero => intro v74 v74Z h75 v74E Ih75 Fh75 K76 K77 q78 q79 hm80; exact absurd hm80 (by omega)
                                | succ nn ihL72 =>
                                  intro v74 v74Z h75 v74E Ih75 Fh75 K76 K77 q78 q79 hm80
                                  have na9 : nA h h75 := by assumption
                                  refine V_iload d_Mod_read_220 rfl ?_
                                  refine V_bipush 20 d_Mod_read_222 (by decide) ?_
                                  refine V_icmp_ge 250 v74E tc_20 d_Mod_read_224 (by decide) (fun c81 => ?_) (fun c81 => ?_)
                                  ·
                                    refine V_bipush (-20) d_Mod_read_250 (by decide) ?_
                                    refine V_iload d_Mod_read_252 rfl ?_
                                    refine V_isub tc_m20 v26E (by omega) d_Mod_read_254 (fun z82 z82e z82E => ?_)
                                    exact V_iret rfl d_Mod_read_255 ⟨z82, rfl, ⟨Ih75, Fh75, na9⟩⟩
                                  ·
                                    refine V_aload_n 0 d_Mod_read_227 rfl rfl ?_
                                    refine V_getR fa_Mod_7 sk_116 rfl d_Mod_read_228 ?_
                                    refine V_bipush 64 d_Mod_read_231 (by decide) ?_
                                    refine V_iload d_Mod_read_233 rfl ?_
                                    refine V_iadd tc_64 v74E (by omega) d_Mod_read_235 (fun z83 z83e z83E => ?_)
                                    refine V_aload_n 0 d_Mod_read_236 rfl rfl ?_
                                    refine V_getR fa_Mod_53 sk_116 rfl d_Mod_read_237 ?_
                                    refine V_iload d_Mod_read_240 rfl ?_
                                    refine N_iald sk_131 v74E (by omega) d_Mod_read_242 (fun z84 z84Z z84E z84e => ?_)
                                    refine N_iast sk_117 z83E (by omega) d_Mod_read_243 (fun h85 eh85 => ?_)
                                    have hI86 : Inv h85 := inv_full Ih75 eh85 (st_lo (by omega))
                                    have f87 : fr S_Mod_readA h h85 := fr_put Fh75 eh85 rfl
                                    have N88 : nA h h85 := nA_s na9 eh85 (by omega)
                                    obtain ⟨z89, z89E, z89e⟩ : ∃ y : Int32, y.toInt = v74Z + 1 ∧ y = v74 + Int32.ofInt 1 := ⟨_, ti_add v74E (by decide) (by omega), rfl⟩
                                    refine V_iinc 9 [some (.ref 116), some (.int k), some (.int l), some (.int f), some (.int n), some (.int v46), some (.int v25), some (.int v26), some (.int z57), some (.int z89), none] d_Mod_read_244 rfl z89e.symm (by decide) rfl rfl ?_
                                    refine V_goto 220 d_Mod_read_247 (by decide) ?_
                                    exact ihL72 z89 ((v74Z + 1)) h85 z89E hI86 f87 (kn_ne eh85 K76 (by decide)) (kn_ne eh85 K77 (by decide)) (by omega) N88 (by omega)
                              exact L72 (Int.toNat ((20 - 0 : Int) + 1)) 0 0 h64 tc_0 hI66 f67 (kn_call fh64 K28 rfl) (kn_call fh64 K29 rfl) (by omega) N68 (by omega)
                        ·
                          refine V_iload d_Mod_read_86 rfl ?_
                          refine V_if_ne 167 v46E d_Mod_read_88 (by decide) (fun c90 => ?_) (fun c90 => ?_)
                          ·
                            refine V_iload d_Mod_read_167 rfl ?_
                            refine V_if_ne 259 v46E d_Mod_read_169 (by decide) (fun c91 => ?_) (fun c91 => ?_)
                            ·
                              obtain ⟨z92, z92E, z92e⟩ : ∃ y : Int32, y.toInt = v26Z + 1 ∧ y = v26 + Int32.ofInt 1 := ⟨_, ti_add v26E (by decide) (by omega), rfl⟩
                              refine V_iinc 7 [some (.ref 116), some (.int k), some (.int l), some (.int f), some (.int n), some (.int v46), some (.int v25), some (.int z92), some (.int v47), none, none] d_Mod_read_259 rfl z92e.symm (by decide) rfl rfl ?_
                              refine V_goto 65 d_Mod_read_262 (by decide) ?_
                              refine V_drop 8 [some (.ref 116), some (.int k), some (.int l), some (.int f), some (.int n), some (.int v46), some (.int v25), some (.int z92), none, none, none] rfl ?_
                              exact ihL22 v46 v46Z v25 v25Z z92 ((v26Z + 1)) h27 v46E v25E z92E Ih27 Fh27 K28 K29 (by omega) (by omega) na9 (by omega)
                            ·
                              refine V_bipush 40 d_Mod_read_172 (by decide) ?_
                              refine V_iload_n 1 d_Mod_read_174 rfl rfl ?_
                              refine V_imul tc_40 kE (by omega) d_Mod_read_175 (fun z93 z93e z93E => ?_)
                              refine V_iload_n 3 d_Mod_read_176 rfl rfl ?_
                              refine V_iadd z93E fE (by omega) d_Mod_read_177 (fun z94 z94e z94E => ?_)
                              refine V_iconst 3 d_Mod_read_178 (by decide) ?_
                              refine V_iload d_Mod_read_179 rfl ?_
                              refine V_imul tc_3 v26E (by omega) d_Mod_read_181 (fun z95 z95e z95E => ?_)
                              refine V_iadd z94E z95E (by omega) d_Mod_read_182 (fun z96 z96e z96E => ?_)
                              refine V_istore 8 [some (.ref 116), some (.int k), some (.int l), some (.int f), some (.int n), some (.int v46), some (.int v25), some (.int v26), some (.int z96), none, none] d_Mod_read_183 (by decide) rfl rfl ?_
                              refine V_aload_n 0 d_Mod_read_185 rfl rfl ?_
                              refine V_aload_n 0 d_Mod_read_186 rfl rfl ?_
                              refine V_getR fa_Mod_50 sk_116 rfl d_Mod_read_187 ?_
                              refine V_iload d_Mod_read_190 rfl ?_
                              refine N_iald sk_130 z96E (by omega) d_Mod_read_192 (fun z97 z97Z z97E z97e => ?_)
                              refine V_aload_n 0 d_Mod_read_193 rfl rfl ?_
                              refine V_getR fa_Mod_50 sk_116 rfl d_Mod_read_194 ?_
                              refine V_iload d_Mod_read_197 rfl ?_
                              refine V_iconst 1 d_Mod_read_199 (by decide) ?_
                              refine V_iadd z96E tc_1 (by omega) d_Mod_read_200 (fun z98 z98e z98E => ?_)
                              refine N_iald sk_130 z98E (by omega) d_Mod_read_201 (fun z99 z99Z z99E z99e => ?_)
                              refine V_aload_n 0 d_Mod_read_202 rfl rfl ?_
                              refine V_getR fa_Mod_50 sk_116 rfl d_Mod_read_203 ?_
                              refine V_iload d_Mod_read_206 rfl ?_
                              refine V_iconst 2 d_Mod_read_208 (by decide) ?_
                              refine V_iadd z96E tc_2 (by omega) d_Mod_read_209 (fun z100 z100e z100E => ?_)
                              refine N_iald sk_130 z100E (by omega) d_Mod_read_210 (fun z101 z101Z z101E z101e => ?_)
                              refine N_callVI [.int z97, .int z99, .int z101] [] cv_Mod_325 sk_116 rfl d_Mod_read_211 rfl (Nat.le_of_ble_eq_true rfl) (by decide) (by decide) (c_Mod_boreA h27 Ih27 z97 z97Z z97E z99 z99Z z99E z101 z101Z z101E w wZ wE K28 g gZ gE K29) (fun z102 h103 z102Z z102E p104 => ?_)
                              obtain ⟨hI105, fh103, p104⟩ := p104
                              have f106 : fr S_Mod_readA h h103 := fr_call Fh27 fh103 rfl
                              have N107 : nA h h103 := nA_t na9 p104
                              refine V_if_ge 256 z102E d_Mod_read_214 (by decide) (fun c108 => ?_) (fun c108 => ?_)
                              ·
                                obtain ⟨z109, z109E, z109e⟩ : ∃ y : Int32, y.toInt = v25Z + 1 ∧ y = v25 + Int32.ofInt 1 := ⟨_, ti_add v25E (by decide) (by omega), rfl⟩
                                refine V_iinc 6 [some (.ref 116), some (.int k), some (.int l), some (.int f), some (.int n), some (.int v46), some (.int z109), some (.int v26), some (.int z96), none, none] d_Mod_read_256 rfl z109e.symm (by decide) rfl rfl ?_
                                obtain ⟨z110, z110E, z110e⟩ : ∃ y : Int32, y.toInt = v26Z + 1 ∧ y = v26 + Int32.ofInt 1 := ⟨_, ti_add v26E (by decide) (by omega), rfl⟩
                                refine V_iinc 7 [some (.ref 116), some (.int k), some (.int l), some (.int f), some (.int n), some (.int v46), some (.int z109), some (.int z110), some (.int z96), none, none] d_Mod_read_259 rfl z110e.symm (by decide) rfl rfl ?_
                                refine V_goto 65 d_Mod_read_262 (by decide) ?_
                                refine V_drop 8 [some (.ref 116), some (.int k), some (.int l), some (.int f), some (.int n), some (.int v46), some (.int z109), some (.int z110), none, none, none] rfl ?_
                                exact ihL22 v46 v46Z z109 ((v25Z + 1)) z110 ((v26Z + 1)) h103 v46E z109E z110E hI105 f106 (kn_call fh103 K28 rfl) (kn_call fh103 K29 rfl) (by omega) (by omega) N107 (by omega)
                              ·
                                refine V_iconst 0 d_Mod_read_217 (by decide) ?_
                                refine V_istore 9 [some (.ref 116), some (.int k), some (.int l), some (.int f), some (.int n), some (.int v46), some (.int v25), some (.int v26), some (.int z96), some (.int 0), none] d_Mod_read_218 (by decide) rfl rfl ?_
                                have L111 : ∀ (nn : Nat) (v113 : Int32) (v113Z : Int) (h114 : Hp), v113.toInt = v113Z → Inv h114 → fr S_Mod_readA h h114 → h114.1 116 2 = w → h114.1 116 3 = g → 0 ≤ v113Z ∧ v113Z ≤ 20 → nA h h114 → 20 - v113Z < (nn : Int) → V R_Mod b_Mod_read 11 (some .int) 3 74 (q_Mod_readA h k kZ l lZ f fZ n nZ w wZ g gZ) h114 220 [some (.ref 116), some (.int k), some (.int l), some (.int f), some (.int n), some (.int v46), some (.int v25), some (.int v26), some (.int z96), some (.int v113), none] [] := by
                                  intro nn
                                  induction nn with
                                  | zero => intro v113 v113Z h114 v113E Ih114 Fh114 K115 K116 q117 q118 hm119; exact absurd hm119 (by omega)
                                  | succ nn ihL111 =>
                                    intro v113 v113Z h114 v113E Ih114 Fh114 K115 K116 q117 q118 hm119
                                    have na9 : nA h h114 := by assumption
                                    refine V_iload d_Mod_read_220 rfl ?_
                                    refine V_bipush 20 d_Mod_read_222 (by decide) ?_
                                    refine V_icmp_ge 250 v113E tc_20 d_Mod_read_224 (by decide) (fun c120 => ?_) (fun c120 => ?_)
                                    ·
                                      refine V_bipush (-20) d_Mod_read_250 (by decide) ?_
                                      refine V_iload d_Mod_read_252 rfl ?_
                                      refine V_isub tc_m20 v26E (by omega) d_Mod_read_254 (fun z121 z121e z121E => ?_)
                                      exact V_iret rfl d_Mod_read_255 ⟨z121, rfl, ⟨Ih114, Fh114, na9⟩⟩
                                    ·
                                      refine V_aload_n 0 d_Mod_read_227 rfl rfl ?_
                                      refine V_getR fa_Mod_7 sk_116 rfl d_Mod_read_228 ?_
                                      refine V_bipush 64 d_Mod_read_231 (by decide) ?_
                                      refine V_iload d_Mod_read_233 rfl ?_
                                      refine V_iadd tc_64 v113E (by omega) d_Mod_read_235 (fun z122 z122e z122E => ?_)
                                      refine V_aload_n 0 d_Mod_read_236 rfl rfl ?_
                                      refine V_getR fa_Mod_53 sk_116 rfl d_Mod_read_237 ?_
                                      refine V_iload d_Mod_read_240 rfl ?_
                                      refine N_iald sk_131 v113E (by omega) d_Mod_read_242 (fun z123 z123Z z123E z123e => ?_)
                                      refine N_iast sk_117 z122E (by omega) d_Mod_read_243 (fun h124 eh124 => ?_)
                                      have hI125 : Inv h124 := inv_full Ih114 eh124 (st_lo (by omega))
                                      have f126 : fr S_Mod_readA h h124 := fr_put Fh114 eh124 rfl
                                      have N127 : nA h h124 := nA_s na9 eh124 (by omega)
                                      obtain ⟨z128, z128E, z128e⟩ : ∃ y : Int32, y.toInt = v113Z + 1 ∧ y = v113 + Int32.ofInt 1 := ⟨_, ti_add v113E (by decide) (by omega), rfl⟩
                                      refine V_iinc 9 [some (.ref 116), some (.int k), some (.int l), some (.int f), some (.int n), some (.int v46), some (.int v25), some (.int v26), some (.int z96), some (.int z128), none] d_Mod_read_244 rfl z128e.symm (by decide) rfl rfl ?_
                                      refine V_goto 220 d_Mod_read_247 (by decide) ?_
                                      exact ihL111 z128 ((v113Z + 1)) h124 z128E hI125 f126 (kn_ne eh124 K115 (by decide)) (kn_ne eh124 K116 (by decide)) (by omega) N127 (by omega)
                                exact L111 (Int.toNat ((20 - 0 : Int) + 1)) 0 0 h103 tc_0 hI105 f106 (kn_call fh103 K28 rfl) (kn_call fh103 K29 rfl) (by omega) N107 (by omega)
                          ·
                            refine V_iload_n 3 d_Mod_read_91 rfl rfl ?_
                            refine V_i2l d_Mod_read_92 (fun z129 z129e z129E => ?_)
                            have z129F : z129.toInt = fZ := z129E.trans fE
                            refine V_iconst 3 d_Mod_read_93 (by decide) ?_
                            refine V_iload d_Mod_read_94 rfl ?_
                            refine V_imul tc_3 v26E (by omega) d_Mod_read_96 (fun z130 z130e z130E => ?_)
                            refine V_i2l d_Mod_read_97 (fun z131 z131e z131E => ?_)
                            have z131F : z131.toInt = (3 * v26Z) := z131E.trans z130E
                            refine N_ladd d_Mod_read_98 (fun z132 z132Z z132E z132e => ?_)
                            have g133 : z132Z = fZ + (3 * v26Z) := by rw [← z132E, z132e]; exact t64_add z129F z131F (by omega)
                            refine V_iload d_Mod_read_99 rfl ?_
                            refine V_i2l d_Mod_read_101 (fun z134 z134e z134E => ?_)
                            have z134F : z134.toInt = v47Z := z134E.trans v47E
                            refine N_ladd d_Mod_read_102 (fun z135 z135Z z135E z135e => ?_)
                            have g136 : z135Z = z132Z + v47Z := by rw [← z135E, z135e]; exact t64_add z132E z134F (by omega)
                            refine V_lstore 9 [some (.ref 116), some (.int k), some (.int l), some (.int f), some (.int n), some (.int v46), some (.int v25), some (.int v26), some (.int v47), some (.long z135), none] d_Mod_read_103 (by decide) rfl rfl ?_
                            refine V_aload_n 0 d_Mod_read_105 rfl rfl ?_
                            refine V_getR fa_Mod_44 sk_116 rfl d_Mod_read_106 ?_
                            refine V_iload_n 1 d_Mod_read_109 rfl rfl ?_
                            refine N_iald sk_128 kE (by omega) d_Mod_read_110 (fun z137 z137Z z137E z137e => ?_)
                            refine V_bipush (-4) d_Mod_read_111 (by decide) ?_
                            refine V_icmp_ne 120 z137E tc_m4 d_Mod_read_113 (by decide) (fun c138 => ?_) (fun c138 => ?_)
                            ·
                              refine V_aload_n 0 d_Mod_read_120 rfl rfl ?_
                              refine V_getR fa_Mod_44 sk_116 rfl d_Mod_read_121 ?_
                              refine V_iload_n 1 d_Mod_read_124 rfl rfl ?_
                              refine N_iald sk_128 kE (by omega) d_Mod_read_125 (fun z139 z139Z z139E z139e => ?_)
                              refine V_iload_n 2 d_Mod_read_126 rfl rfl ?_
                              refine V_icmp_eq 134 z139E lE d_Mod_read_127 (by decide) (fun c140 => ?_) (fun c140 => ?_)
                              ·
                                refine V_lload d_Mod_read_134 rfl ?_
                                refine V_lconst 0 d_Mod_read_136 (by decide) ?_
                                refine N_lcmp d_Mod_read_137 (fun z141 z141Z z141E z141e => ?_)
                                have g142 := lcmp_ti z135E tl_0 z141e z141E
                                refine V_if_lt 154 z141E d_Mod_read_138 (by decide) (fun c143 => ?_) (fun c143 => ?_)
                                ·
                                  refine V_iconst 2 d_Mod_read_154 (by decide) ?_
                                  refine V_goto 159 d_Mod_read_155 (by decide) ?_
                                  refine V_istore 5 [some (.ref 116), some (.int k), some (.int l), some (.int f), some (.int n), some (.int 2), some (.int v25), some (.int v26), some (.int v47), some (.long z135), none] d_Mod_read_159 (by decide) rfl rfl ?_
                                  obtain ⟨z144, z144E, z144e⟩ : ∃ y : Int32, y.toInt = v47Z + 1 ∧ y = v47 + Int32.ofInt 1 := ⟨_, ti_add v47E (by decide) (by omega), rfl⟩
                                  refine V_iinc 8 [some (.ref 116), some (.int k), some (.int l), some (.int f), some (.int n), some (.int 2), some (.int v25), some (.int v26), some (.int z144), some (.long z135), none] d_Mod_read_161 rfl z144e.symm (by decide) rfl rfl ?_
                                  refine V_goto 80 d_Mod_read_164 (by decide) ?_
                                  refine V_drop 9 [some (.ref 116), some (.int k), some (.int l), some (.int f), some (.int n), some (.int 2), some (.int v25), some (.int v26), some (.int z144), none, none] rfl ?_
                                  exact ihL44 2 2 z144 ((v47Z + 1)) tc_2 z144E (by omega) (by omega) (by omega)
                                ·
                                  refine V_lload d_Mod_read_141 rfl ?_
                                  refine V_aload_n 0 d_Mod_read_143 rfl rfl ?_
                                  refine V_getR fa_Mod_47 sk_116 rfl d_Mod_read_144 ?_
                                  refine V_iload_n 1 d_Mod_read_147 rfl rfl ?_
                                  refine N_iald sk_129 kE (by omega) d_Mod_read_148 (fun z145 z145Z z145E z145e => ?_)
                                  have g146 : 0 ≤ z145Z ∧ z145Z ≤ 40 := inv_at Ih27 z145E z145e rfl
                                  have g147 : z145Z = svZ := by rw [← z145E, z145e, (Fh27).1 129 _ rfl, ← svK, svE]
                                  refine V_i2l d_Mod_read_149 (fun z148 z148e z148E => ?_)
                                  have z148F : z148.toInt = z145Z := z148E.trans z145E
                                  refine N_lcmp d_Mod_read_150 (fun z149 z149Z z149E z149e => ?_)
                                  have g150 := lcmp_ti z135E z148F z149e z149E
                                  refine V_if_lt 158 z149E d_Mod_read_151 (by decide) (fun c151 => ?_) (fun c151 => ?_)
                                  ·
                                    refine V_iconst 0 d_Mod_read_158 (by decide) ?_
                                    refine V_istore 5 [some (.ref 116), some (.int k), some (.int l), some (.int f), some (.int n), some (.int 0), some (.int v25), some (.int v26), some (.int v47), some (.long z135), none] d_Mod_read_159 (by decide) rfl rfl ?_
                                    obtain ⟨z152, z152E, z152e⟩ : ∃ y : Int32, y.toInt = v47Z + 1 ∧ y = v47 + Int32.ofInt 1 := ⟨_, ti_add v47E (by decide) (by omega), rfl⟩
                                    refine V_iinc 8 [some (.ref 116), some (.int k), some (.int l), some (.int f), some (.int n), some (.int 0), some (.int v25), some (.int v26), some (.int z152), some (.long z135), none] d_Mod_read_161 rfl z152e.symm (by decide) rfl rfl ?_
                                    refine V_goto 80 d_Mod_read_164 (by decide) ?_
                                    refine V_drop 9 [some (.ref 116), some (.int k), some (.int l), some (.int f), some (.int n), some (.int 0), some (.int v25), some (.int v26), some (.int z152), none, none] rfl ?_
                                    exact ihL44 0 0 z152 ((v47Z + 1)) tc_0 z152E (by omega) (by omega) (by omega)
                                  ·
                                    refine V_iconst 2 d_Mod_read_154 (by decide) ?_
                                    refine V_goto 159 d_Mod_read_155 (by decide) ?_
                                    refine V_istore 5 [some (.ref 116), some (.int k), some (.int l), some (.int f), some (.int n), some (.int 2), some (.int v25), some (.int v26), some (.int v47), some (.long z135), none] d_Mod_read_159 (by decide) rfl rfl ?_
                                    obtain ⟨z153, z153E, z153e⟩ : ∃ y : Int32, y.toInt = v47Z + 1 ∧ y = v47 + Int32.ofInt 1 := ⟨_, ti_add v47E (by decide) (by omega), rfl⟩
                                    refine V_iinc 8 [some (.ref 116), some (.int k), some (.int l), some (.int f), some (.int n), some (.int 2), some (.int v25), some (.int v26), some (.int z153), some (.long z135), none] d_Mod_read_161 rfl z153e.symm (by decide) rfl rfl ?_
                                    refine V_goto 80 d_Mod_read_164 (by decide) ?_
                                    refine V_drop 9 [some (.ref 116), some (.int k), some (.int l), some (.int f), some (.int n), some (.int 2), some (.int v25), some (.int v26), some (.int z153), none, none] rfl ?_
                                    exact ihL44 2 2 z153 ((v47Z + 1)) tc_2 z153E (by omega) (by omega) (by omega)
                              ·
                                refine V_iconst 3 d_Mod_read_130 (by decide) ?_
                                refine V_goto 159 d_Mod_read_131 (by decide) ?_
                                refine V_istore 5 [some (.ref 116), some (.int k), some (.int l), some (.int f), some (.int n), some (.int 3), some (.int v25), some (.int v26), some (.int v47), some (.long z135), none] d_Mod_read_159 (by decide) rfl rfl ?_
                                obtain ⟨z154, z154E, z154e⟩ : ∃ y : Int32, y.toInt = v47Z + 1 ∧ y = v47 + Int32.ofInt 1 := ⟨_, ti_add v47E (by decide) (by omega), rfl⟩
                                refine V_iinc 8 [some (.ref 116), some (.int k), some (.int l), some (.int f), some (.int n), some (.int 3), some (.int v25), some (.int v26), some (.int z154), some (.long z135), none] d_Mod_read_161 rfl z154e.symm (by decide) rfl rfl ?_
                                refine V_goto 80 d_Mod_read_164 (by decide) ?_
                                refine V_drop 9 [some (.ref 116), some (.int k), some (.int l), some (.int f), some (.int n), some (.int 3), some (.int v25), some (.int v26), some (.int z154), none, none] rfl ?_
                                exact ihL44 3 3 z154 ((v47Z + 1)) tc_3 z154E (by omega) (by omega) (by omega)
                            ·
                              refine V_iconst 1 d_Mod_read_116 (by decide) ?_
                              refine V_goto 159 d_Mod_read_117 (by decide) ?_
                              refine V_istore 5 [some (.ref 116), some (.int k), some (.int l), some (.int f), some (.int n), some (.int 1), some (.int v25), some (.int v26), some (.int v47), some (.long z135), none] d_Mod_read_159 (by decide) rfl rfl ?_
                              obtain ⟨z155, z155E, z155e⟩ : ∃ y : Int32, y.toInt = v47Z + 1 ∧ y = v47 + Int32.ofInt 1 := ⟨_, ti_add v47E (by decide) (by omega), rfl⟩
                              refine V_iinc 8 [some (.ref 116), some (.int k), some (.int l), some (.int f), some (.int n), some (.int 1), some (.int v25), some (.int v26), some (.int z155), some (.long z135), none] d_Mod_read_161 rfl z155e.symm (by decide) rfl rfl ?_
                              refine V_goto 80 d_Mod_read_164 (by decide) ?_
                              refine V_drop 9 [some (.ref 116), some (.int k), some (.int l), some (.int f), some (.int n), some (.int 1), some (.int v25), some (.int v26), some (.int z155), none, none] rfl ?_
                              exact ihL44 1 1 z155 ((v47Z + 1)) tc_1 z155E (by omega) (by omega) (by omega)
                    exact L44 (Int.toNat ((3 - 0 : Int) + 1)) v24 v24Z 0 0 v24E tc_0 (by omega) (by omega) (by omega)
            exact L22 (Int.toNat ((nZ - 0 : Int) + 1)) 0 0 0 0 0 0 h15 tc_0 tc_0 tc_0 Ih15 Fh15 K16 K17 (by omega) (by omega) na9 (by omega)
          ·
            refine V_aload_n 0 d_Mod_read_33 rfl rfl ?_
            refine V_getR fa_Mod_53 sk_116 rfl d_Mod_read_34 ?_
            refine V_iload d_Mod_read_37 rfl ?_
            refine V_aload_n 0 d_Mod_read_39 rfl rfl ?_
            refine V_getR fa_Mod_7 sk_116 rfl d_Mod_read_40 ?_
            refine V_bipush 64 d_Mod_read_43 (by decide) ?_
            refine V_iload d_Mod_read_45 rfl ?_
            refine V_iadd tc_64 v14E (by omega) d_Mod_read_47 (fun z156 z156e z156E => ?_)
            refine N_iald sk_117 z156E (by omega) d_Mod_read_48 (fun z157 z157Z z157E z157e => ?_)
            refine N_iast sk_131 v14E (by omega) d_Mod_read_49 (fun h158 eh158 => ?_)
            have hI159 : Inv h158 := inv_full Ih15 eh158 rfl
            have f160 : fr S_Mod_readA h h158 := fr_put Fh15 eh158 rfl
            have N161 : nA h h158 := nA_s na9 eh158 (by omega)
            obtain ⟨z162, z162E, z162e⟩ : ∃ y : Int32, y.toInt = v14Z + 1 ∧ y = v14 + Int32.ofInt 1 := ⟨_, ti_add v14E (by decide) (by omega), rfl⟩
            refine V_iinc 5 [some (.ref 116), some (.int k), some (.int l), some (.int f), some (.int n), some (.int z162), none, none, none, none, none] d_Mod_read_50 rfl z162e.symm (by decide) rfl rfl ?_
            refine V_goto 26 d_Mod_read_53 (by decide) ?_
            exact ihL12 z162 ((v14Z + 1)) h158 z162E hI159 f160 (kn_ne eh158 K16 (by decide)) (kn_ne eh158 K17 (by decide)) (by omega) N161 (by omega)
      exact L12 (Int.toNat ((20 - 0 : Int) + 1)) 0 0 h tc_0 hI f0 wK gK (by omega) nA_rf (by omega)
    ·
      refine V_iconst (-1) d_Mod_read_21 (by decide) ?_
      exact V_iret rfl d_Mod_read_22 ⟨(-1), rfl, ⟨hI, f0, nA_rf⟩⟩
end
section
def S_Rod_readX : List (Nat × Option Nat) := [(0, some 3), (0, some 4), (1, none), (2, none), (3, none), (4, none), (5, none), (6, none), (7, some 4), (8, none), (9, none), (10, none), (11, none), (12, some 4), (13, none), (14, none), (15, none), (16, none), (17, some 3), (17, some 4), (18, none), (19, none), (20, none), (21, none), (22, none), (23, none), (24, some 4), (25, none), (26, none), (27, none), (28, none), (29, some 4), (30, none), (31, none), (32, none), (33, none), (85, some 10)]
abbrev q_Rod_readX (h : Hp) (k : Int32) (kZ : Int) (l : Int32) (lZ : Int) (f : Int32) (fZ : Int) (n : Int32) (nZ : Int) : Option Value → Hp → Prop := pInt (fun r h' => Inv h' ∧ fr S_Rod_readX h h' ∧ (cA h h'))
set_option maxRecDepth 100000 in
theorem c_Rod_readX (h : Hp) (hI : Inv h) (k : Int32) (kZ : Int) (kE : k.toInt = kZ) (l : Int32) (lZ : Int) (lE : l.toInt = lZ) (f : Int32) (fZ : Int) (fE : f.toInt = fZ) (n : Int32) (nZ : Int) (nE : n.toInt = nZ) : Ct y_Rod_read b_Rod_read 9 (some .int) 3 102 [.ref 85, .int k, .int l, .int f, .int n] h (q_Rod_readX h k kZ l lZ f fZ n nZ) := by
  refine ct_ow R_Rod [some (.ref 85), some (.int k), some (.int l), some (.int f), some (.int n), none, none, none, none] rfl (by decide) rfl (Nat.le_of_ble_eq_true rfl) ?_
  have f0 : fr S_Rod_readX h h := fr_rf
  refine V_iload_n 1 d_Rod_read_0 rfl rfl ?_
  refine N_callSI [.int k] [] cs_Rod_283 d_Rod_read_1 rfl (Nat.le_of_ble_eq_true rfl) (by decide) (by decide) (c_Rod_isSheet h k kZ kE) (fun z1 h2 z1Z z1E p3 => ?_)
  obtain ⟨eh2, p3⟩ := p3
  subst eh2
  refine V_if_eq 26 z1E d_Rod_read_4 (by decide) (fun c4 => ?_) (fun c4 => ?_)
  ·
    refine V_iconst (-1) d_Rod_read_26 (by decide) ?_
    exact V_iret rfl d_Rod_read_27 ⟨(-1), rfl, ⟨hI, f0, (fun _ _ _ _ => rfl)⟩⟩
  ·
    refine V_iload_n 2 d_Rod_read_7 rfl rfl ?_
    refine N_callSI [.int l] [] cs_Rod_286 d_Rod_read_8 rfl (Nat.le_of_ble_eq_true rfl) (by decide) (by decide) (c_Rod_isLane h l lZ lE) (fun z5 h6 z5Z z5E p7 => ?_)
    obtain ⟨eh6, p7⟩ := p7
    subst eh6
    refine V_if_eq 26 z5E d_Rod_read_11 (by decide) (fun c8 => ?_) (fun c8 => ?_)
    ·
      refine V_iconst (-1) d_Rod_read_26 (by decide) ?_
      exact V_iret rfl d_Rod_read_27 ⟨(-1), rfl, ⟨hI, f0, (fun _ _ _ _ => rfl)⟩⟩
    ·
      refine V_iload d_Rod_read_14 rfl ?_
      refine V_if_lt 26 nE d_Rod_read_16 (by decide) (fun c9 => ?_) (fun c9 => ?_)
      ·
        refine V_iconst (-1) d_Rod_read_26 (by decide) ?_
        exact V_iret rfl d_Rod_read_27 ⟨(-1), rfl, ⟨hI, f0, (fun _ _ _ _ => rfl)⟩⟩
      ·
        refine V_iload d_Rod_read_19 rfl ?_
        refine V_bipush 13 d_Rod_read_21 (by decide) ?_
        refine V_icmp_le 28 nE tc_13 d_Rod_read_23 (by decide) (fun c10 => ?_) (fun c10 => ?_)
        ·
          refine V_aload_n 0 d_Rod_read_28 rfl rfl ?_
          refine V_getR fa_Rod_62 sk_85 rfl d_Rod_read_29 ?_
          refine V_iload_n 1 d_Rod_read_32 rfl rfl ?_
          rcases (by omega : kZ = 0 ∨ kZ = 1 ∨ kZ = 2 ∨ kZ = 3) with c11 | c11 | c11 | c11
          ·
            refine V_aald (r := 108) sk_107 (by decide) kE (by omega) (by rw [c11]; rfl) d_Rod_read_33 ?_
            refine V_astore 5 [some (.ref 85), some (.int k), some (.int l), some (.int f), some (.int n), some (.ref 108), none, none, none] d_Rod_read_34 (by decide) rfl rfl ?_
            refine V_aload d_Rod_read_36 rfl ?_
            refine V_iload_n 2 d_Rod_read_38 rfl rfl ?_
            refine V_iload_n 3 d_Rod_read_39 rfl rfl ?_
            refine V_iload d_Rod_read_40 rfl ?_
            obtain ⟨z12, z12Z, z12E, z12e⟩ : ∃ (y : Int32) (Y : Int), y.toInt = Y ∧ y = h.1 108 2 := ⟨_, _, rfl, rfl⟩
            have g13 : 0 ≤ z12Z ∧ z12Z ≤ 40 := inv_at hI z12E z12e rfl
            refine N_callVI [.int l, .int f, .int n] [] cv_Rod_300 sk_108 rfl d_Rod_read_42 rfl (Nat.le_of_ble_eq_true rfl) (by decide) (by decide) (c_Sheet_wholeBores_0 h hI l lZ lE f fZ fE n nZ nE z12 z12Z z12E z12e.symm (by omega)) (fun z14 h15 z14Z z14E p16 => ?_)
            obtain ⟨eh15, p16⟩ := p16
            subst eh15
            refine V_istore 6 [some (.ref 85), some (.int k), some (.int l), some (.int f), some (.int n), some (.ref 108), some (.int z14), none, none] d_Rod_read_45 (by decide) rfl rfl ?_
            refine V_aload_n 0 d_Rod_read_47 rfl rfl ?_
            refine V_getR fa_Rod_16 sk_85 rfl d_Rod_read_48 ?_
            refine V_aload_n 0 d_Rod_read_51 rfl rfl ?_
            refine V_getR fa_Rod_12 sk_85 rfl d_Rod_read_52 ?_
            obtain ⟨z17, z17Z, z17E, z17e⟩ : ∃ (y : Int32) (Y : Int), y.toInt = Y ∧ y = h.1 0 3 := ⟨_, _, rfl, rfl⟩
            obtain ⟨z18, z18Z, z18E, z18e⟩ : ∃ (y : Int32) (Y : Int), y.toInt = Y ∧ y = h.1 0 4 := ⟨_, _, rfl, rfl⟩
            refine N_callVV [.ref 0] [] cv_Rod_84 sk_17 rfl d_Rod_read_55 rfl (Nat.le_of_ble_eq_true rfl) (by decide) (by decide) (c_County_copyX_1_0 h hI z17 z17Z z17E z17e.symm z18 z18Z z18E z18e.symm) (fun h20 p21 => ?_)
            obtain ⟨hI22, fh20, p21⟩ := p21
            have f23 : fr S_Rod_readX h h20 := fr_call f0 fh20 rfl
            have P24 : sp2 h h20 := sp2_of p21 fh20 rfl
            refine V_iconst 0 d_Rod_read_58 (by decide) ?_
            refine V_istore 7 [some (.ref 85), some (.int k), some (.int l), some (.int f), some (.int n), some (.ref 108), some (.int z14), some (.int 0), none] d_Rod_read_59 (by decide) rfl rfl ?_
            have L25 : ∀ (nn : Nat) (v27 : Int32) (v27Z : Int) (h28 : Hp), v27.toInt = v27Z → Inv h28 → fr S_Rod_readX h h28 → 0 ≤ v27Z ∧ v27Z ≤ z14Z → sp2 h h28 → z14Z - v27Z < (nn : Int) → V R_Rod b_Rod_read 9 (some .int) 3 102 (q_Rod_readX h k kZ l lZ f fZ n nZ) h28 61 [some (.ref 85), some (.int k), some (.int l), some (.int f), some (.int n), some (.ref 108), some (.int z14), some (.int v27), none] [] := by
              intro nn
              induction nn with
              | zero => intro v27 v27Z h28 v27E Ih28 Fh28 q29 q30 hm31; exact absurd hm31 (by omega)
              | succ nn ihL25 =>
                intro v27 v27Z h28 v27E Ih28 Fh28 q29 q30 hm31
                have sp9 : sp2 h h28 := by assumption
                refine V_iload d_Rod_read_61 rfl ?_
                refine V_iload d_Rod_read_63 rfl ?_
                refine V_icmp_ge 137 v27E z14E d_Rod_read_65 (by decide) (fun c32 => ?_) (fun c32 => ?_)
                ·
                  refine V_aload_n 0 d_Rod_read_137 rfl rfl ?_
                  refine V_aload d_Rod_read_138 rfl ?_
                  refine V_iload_n 2 d_Rod_read_140 rfl rfl ?_
                  refine V_iload d_Rod_read_141 rfl ?_
                  refine V_iload d_Rod_read_143 rfl ?_
                  refine N_callVI [.int l, .int n, .int z14] [.ref 85] cv_Rod_306 sk_108 rfl d_Rod_read_145 rfl (Nat.le_of_ble_eq_true rfl) (by decide) (by decide) (c_Sheet_readFault_0 h28 Ih28 l lZ lE n nZ nE z14 z14Z z14E) (fun z33 h34 z33Z z33E p35 => ?_)
                  subst p35
                  refine N_putI fp_Rod_309 sk_85 rfl d_Rod_read_148 (fun h36 eh36 => ?_)
                  have hI37 : Inv h36 := inv_full Ih28 eh36 rfl
                  have f38 : fr S_Rod_readX h h36 := fr_put Fh28 eh36 rfl
                  have P39 : sp2 h h36 := sp2_put sp9 eh36 (by decide)
                  refine V_iload d_Rod_read_151 rfl ?_
                  exact V_iret rfl d_Rod_read_153 ⟨z14, rfl, ⟨hI37, f38, (sp2_c P39)⟩⟩
                ·
                  refine V_iload_n 3 d_Rod_read_68 rfl rfl ?_
                  refine V_iconst 3 d_Rod_read_69 (by decide) ?_
                  refine V_iload d_Rod_read_70 rfl ?_
                  refine V_imul tc_3 v27E (by omega) d_Rod_read_72 (fun z40 z40e z40E => ?_)
                  refine V_iadd fE z40E (by omega) d_Rod_read_73 (fun z41 z41e z41E => ?_)
                  refine V_istore 8 [some (.ref 85), some (.int k), some (.int l), some (.int f), some (.int n), some (.ref 108), some (.int z14), some (.int v27), some (.int z41)] d_Rod_read_74 (by decide) rfl rfl ?_
                  refine V_aload_n 0 d_Rod_read_76 rfl rfl ?_
                  refine V_getR fa_Rod_12 sk_85 rfl d_Rod_read_77 ?_
                  refine V_aload d_Rod_read_80 rfl ?_
                  refine V_getR fa_Rod_303 sk_108 rfl d_Rod_read_82 ?_
                  refine V_iload d_Rod_read_85 rfl ?_
                  refine N_iald sk_109 z41E (by omega) d_Rod_read_87 (fun z42 z42Z z42E z42e => ?_)
                  refine V_aload d_Rod_read_88 rfl ?_
                  refine V_getR fa_Rod_303 sk_108 rfl d_Rod_read_90 ?_
                  refine V_iload d_Rod_read_93 rfl ?_
                  refine V_iconst 1 d_Rod_read_95 (by decide) ?_
                  refine V_iadd z41E tc_1 (by omega) d_Rod_read_96 (fun z43 z43e z43E => ?_)
                  refine N_iald sk_109 z43E (by omega) d_Rod_read_97 (fun z44 z44Z z44E z44e => ?_)
                  refine V_aload d_Rod_read_98 rfl ?_
                  refine V_getR fa_Rod_303 sk_108 rfl d_Rod_read_100 ?_
                  refine V_iload d_Rod_read_103 rfl ?_
                  refine V_iconst 2 d_Rod_read_105 (by decide) ?_
                  refine V_iadd z41E tc_2 (by omega) d_Rod_read_106 (fun z45 z45e z45E => ?_)
                  refine N_iald sk_109 z45E (by omega) d_Rod_read_107 (fun z46 z46Z z46E z46e => ?_)
                  obtain ⟨z47, z47Z, z47E, z47e⟩ : ∃ (y : Int32) (Y : Int), y.toInt = Y ∧ y = h28.1 1 0 := ⟨_, _, rfl, rfl⟩
                  have g48 : 2 ≤ z47Z ∧ z47Z ≤ 4 := inv_at Ih28 z47E z47e rfl
                  obtain ⟨z49, z49Z, z49E, z49e⟩ : ∃ (y : Int32) (Y : Int), y.toInt = Y ∧ y = h28.1 1 1 := ⟨_, _, rfl, rfl⟩
                  have g50 : 2 ≤ z49Z ∧ z49Z ≤ 4 := inv_at Ih28 z49E z49e rfl
                  refine N_callVI [.int z42, .int z44, .int z46] [] cv_Rod_227 sk_0 rfl d_Rod_read_108 rfl (Nat.le_of_ble_eq_true rfl) (by decide) (by decide) (c_County_boreBy_0 h28 Ih28 z42 z42Z z42E z44 z44Z z44E z46 z46Z z46E z47 z47Z z47E z47e.symm z49 z49Z z49E z49e.symm) (fun z51 h52 z51Z z51E p53 => ?_)
                  obtain ⟨hI54, fh52⟩ := p53
                  have f55 : fr S_Rod_readX h h52 := fr_call Fh28 fh52 rfl
                  have P56 : sp2 h h52 := sp2_fr sp9 fh52 rfl
                  refine V_if_ge 131 z51E d_Rod_read_111 (by decide) (fun c57 => ?_) (fun c57 => ?_)
                  ·
                    obtain ⟨z58, z58E, z58e⟩ : ∃ y : Int32, y.toInt = v27Z + 1 ∧ y = v27 + Int32.ofInt 1 := ⟨_, ti_add v27E (by decide) (by omega), rfl⟩
                    refine V_iinc 7 [some (.ref 85), some (.int k), some (.int l), some (.int f), some (.int n), some (.ref 108), some (.int z14), some (.int z58), some (.int z41)] d_Rod_read_131 rfl z58e.symm (by decide) rfl rfl ?_
                    refine V_goto 61 d_Rod_read_134 (by decide) ?_
                    refine V_drop 8 [some (.ref 85), some (.int k), some (.int l), some (.int f), some (.int n), some (.ref 108), some (.int z14), some (.int z58), none] rfl ?_
                    exact ihL25 z58 ((v27Z + 1)) h52 z58E hI54 f55 (by omega) P56 (by omega)
                  ·
                    refine V_aload_n 0 d_Rod_read_114 rfl rfl ?_
                    refine V_getR fa_Rod_12 sk_85 rfl d_Rod_read_115 ?_
                    refine V_aload_n 0 d_Rod_read_118 rfl rfl ?_
                    refine V_getR fa_Rod_16 sk_85 rfl d_Rod_read_119 ?_
                    obtain ⟨z59, z59Z, z59E, z59e⟩ : ∃ (y : Int32) (Y : Int), y.toInt = Y ∧ y = h52.1 17 3 := ⟨_, _, rfl, rfl⟩
                    obtain ⟨z60, z60Z, z60E, z60e⟩ : ∃ (y : Int32) (Y : Int), y.toInt = Y ∧ y = h52.1 17 4 := ⟨_, _, rfl, rfl⟩
                    refine N_callVV [.ref 17] [] cv_Rod_84 sk_0 rfl d_Rod_read_122 rfl (Nat.le_of_ble_eq_true rfl) (by decide) (by decide) (c_County_copyX_0_1 h52 hI54 z59 z59Z z59E z59e.symm z60 z60Z z60E z60e.symm) (fun h62 p63 => ?_)
                    obtain ⟨hI64, fh62, p63⟩ := p63
                    have f65 : fr S_Rod_readX h h62 := fr_call f55 fh62 rfl
                    have P66 : cA h h62 := sp2_back P56 p63
                    refine V_bipush (-20) d_Rod_read_125 (by decide) ?_
                    refine V_iload d_Rod_read_127 rfl ?_
                    refine V_isub tc_m20 v27E (by omega) d_Rod_read_129 (fun z67 z67e z67E => ?_)
                    exact V_iret rfl d_Rod_read_130 ⟨z67, rfl, ⟨hI64, f65, P66⟩⟩
            exact L25 (Int.toNat ((z14Z - 0 : Int) + 1)) 0 0 h20 tc_0 hI22 f23 (by omega) P24 (by omega)
          ·
            refine V_aald (r := 110) sk_107 (by decide) kE (by omega) (by rw [c11]; rfl) d_Rod_read_33 ?_
            refine V_astore 5 [some (.ref 85), some (.int k), some (.int l), some (.int f), some (.int n), some (.ref 110), none, none, none] d_Rod_read_34 (by decide) rfl rfl ?_
            refine V_aload d_Rod_read_36 rfl ?_
            refine V_iload_n 2 d_Rod_read_38 rfl rfl ?_
            refine V_iload_n 3 d_Rod_read_39 rfl rfl ?_
            refine V_iload d_Rod_read_40 rfl ?_
            obtain ⟨z68, z68Z, z68E, z68e⟩ : ∃ (y : Int32) (Y : Int), y.toInt = Y ∧ y = h.1 110 2 := ⟨_, _, rfl, rfl⟩
            have g69 : 0 ≤ z68Z ∧ z68Z ≤ 40 := inv_at hI z68E z68e rfl
            refine N_callVI [.int l, .int f, .int n] [] cv_Rod_300 sk_110 rfl d_Rod_read_42 rfl (Nat.le_of_ble_eq_true rfl) (by decide) (by decide) (c_Sheet_wholeBores_1 h hI l lZ lE f fZ fE n nZ nE z68 z68Z z68E z68e.symm (by omega)) (fun z70 h71 z70Z z70E p72 => ?_)
            obtain ⟨eh71, p72⟩ := p72
            subst eh71
            refine V_istore 6 [some (.ref 85), some (.int k), some (.int l), some (.int f), some (.int n), some (.ref 110), some (.int z70), none, none] d_Rod_read_45 (by decide) rfl rfl ?_
            refine V_aload_n 0 d_Rod_read_47 rfl rfl ?_
            refine V_getR fa_Rod_16 sk_85 rfl d_Rod_read_48 ?_
            refine V_aload_n 0 d_Rod_read_51 rfl rfl ?_
            refine V_getR fa_Rod_12 sk_85 rfl d_Rod_read_52 ?_
            obtain ⟨z73, z73Z, z73E, z73e⟩ : ∃ (y : Int32) (Y : Int), y.toInt = Y ∧ y = h.1 0 3 := ⟨_, _, rfl, rfl⟩
            obtain ⟨z74, z74Z, z74E, z74e⟩ : ∃ (y : Int32) (Y : Int), y.toInt = Y ∧ y = h.1 0 4 := ⟨_, _, rfl, rfl⟩
            refine N_callVV [.ref 0] [] cv_Rod_84 sk_17 rfl d_Rod_read_55 rfl (Nat.le_of_ble_eq_true rfl) (by decide) (by decide) (c_County_copyX_1_0 h hI z73 z73Z z73E z73e.symm z74 z74Z z74E z74e.symm) (fun h76 p77 => ?_)
            obtain ⟨hI78, fh76, p77⟩ := p77
            have f79 : fr S_Rod_readX h h76 := fr_call f0 fh76 rfl
            have P80 : sp2 h h76 := sp2_of p77 fh76 rfl
            refine V_iconst 0 d_Rod_read_58 (by decide) ?_
            refine V_istore 7 [some (.ref 85), some (.int k), some (.int l), some (.int f), some (.int n), some (.ref 110), some (.int z70), some (.int 0), none] d_Rod_read_59 (by decide) rfl rfl ?_
            have L81 : ∀ (nn : Nat) (v83 : Int32) (v83Z : Int) (h84 : Hp), v83.toInt = v83Z → Inv h84 → fr S_Rod_readX h h84 → 0 ≤ v83Z ∧ v83Z ≤ z70Z → sp2 h h84 → z70Z - v83Z < (nn : Int) → V R_Rod b_Rod_read 9 (some .int) 3 102 (q_Rod_readX h k kZ l lZ f fZ n nZ) h84 61 [some (.ref 85), some (.int k), some (.int l), some (.int f), some (.int n), some (.ref 110), some (.int z70), some (.int v83), none] [] := by
              intro nn
              induction nn with
              | zero => intro v83 v83Z h84 v83E Ih84 Fh84 q85 q86 hm87; exact absurd hm87 (by omega)
              | succ nn ihL81 =>
                intro v83 v83Z h84 v83E Ih84 Fh84 q85 q86 hm87
                have sp9 : sp2 h h84 := by assumption
                refine V_iload d_Rod_read_61 rfl ?_
                refine V_iload d_Rod_read_63 rfl ?_
                refine V_icmp_ge 137 v83E z70E d_Rod_read_65 (by decide) (fun c88 => ?_) (fun c88 => ?_)
                ·
                  refine V_aload_n 0 d_Rod_read_137 rfl rfl ?_
                  refine V_aload d_Rod_read_138 rfl ?_
                  refine V_iload_n 2 d_Rod_read_140 rfl rfl ?_
                  refine V_iload d_Rod_read_141 rfl ?_
                  refine V_iload d_Rod_read_143 rfl ?_
                  refine N_callVI [.int l, .int n, .int z70] [.ref 85] cv_Rod_306 sk_110 rfl d_Rod_read_145 rfl (Nat.le_of_ble_eq_true rfl) (by decide) (by decide) (c_Sheet_readFault_1 h84 Ih84 l lZ lE n nZ nE z70 z70Z z70E) (fun z89 h90 z89Z z89E p91 => ?_)
                  subst p91
                  refine N_putI fp_Rod_309 sk_85 rfl d_Rod_read_148 (fun h92 eh92 => ?_)
                  have hI93 : Inv h92 := inv_full Ih84 eh92 rfl
                  have f94 : fr S_Rod_readX h h92 := fr_put Fh84 eh92 rfl
                  have P95 : sp2 h h92 := sp2_put sp9 eh92 (by decide)
                  refine V_iload d_Rod_read_151 rfl ?_
                  exact V_iret rfl d_Rod_read_153 ⟨z70, rfl, ⟨hI93, f94, (sp2_c P95)⟩⟩
                ·
                  refine V_iload_n 3 d_Rod_read_68 rfl rfl ?_
                  refine V_iconst 3 d_Rod_read_69 (by decide) ?_
                  refine V_iload d_Rod_read_70 rfl ?_
                  refine V_imul tc_3 v83E (by omega) d_Rod_read_72 (fun z96 z96e z96E => ?_)
                  refine V_iadd fE z96E (by omega) d_Rod_read_73 (fun z97 z97e z97E => ?_)
                  refine V_istore 8 [some (.ref 85), some (.int k), some (.int l), some (.int f), some (.int n), some (.ref 110), some (.int z70), some (.int v83), some (.int z97)] d_Rod_read_74 (by decide) rfl rfl ?_
                  refine V_aload_n 0 d_Rod_read_76 rfl rfl ?_
                  refine V_getR fa_Rod_12 sk_85 rfl d_Rod_read_77 ?_
                  refine V_aload d_Rod_read_80 rfl ?_
                  refine V_getR fa_Rod_303 sk_110 rfl d_Rod_read_82 ?_
                  refine V_iload d_Rod_read_85 rfl ?_
                  refine N_iald sk_111 z97E (by omega) d_Rod_read_87 (fun z98 z98Z z98E z98e => ?_)
                  refine V_aload d_Rod_read_88 rfl ?_
                  refine V_getR fa_Rod_303 sk_110 rfl d_Rod_read_90 ?_
                  refine V_iload d_Rod_read_93 rfl ?_
                  refine V_iconst 1 d_Rod_read_95 (by decide) ?_
                  refine V_iadd z97E tc_1 (by omega) d_Rod_read_96 (fun z99 z99e z99E => ?_)
                  refine N_iald sk_111 z99E (by omega) d_Rod_read_97 (fun z100 z100Z z100E z100e => ?_)
                  refine V_aload d_Rod_read_98 rfl ?_
                  refine V_getR fa_Rod_303 sk_110 rfl d_Rod_read_100 ?_
                  refine V_iload d_Rod_read_103 rfl ?_
                  refine V_iconst 2 d_Rod_read_105 (by decide) ?_
                  refine V_iadd z97E tc_2 (by omega) d_Rod_read_106 (fun z101 z101e z101E => ?_)
                  refine N_iald sk_111 z101E (by omega) d_Rod_read_107 (fun z102 z102Z z102E z102e => ?_)
                  obtain ⟨z103, z103Z, z103E, z103e⟩ : ∃ (y : Int32) (Y : Int), y.toInt = Y ∧ y = h84.1 1 0 := ⟨_, _, rfl, rfl⟩
                  have g104 : 2 ≤ z103Z ∧ z103Z ≤ 4 := inv_at Ih84 z103E z103e rfl
                  obtain ⟨z105, z105Z, z105E, z105e⟩ : ∃ (y : Int32) (Y : Int), y.toInt = Y ∧ y = h84.1 1 1 := ⟨_, _, rfl, rfl⟩
                  have g106 : 2 ≤ z105Z ∧ z105Z ≤ 4 := inv_at Ih84 z105E z105e rfl
                  refine N_callVI [.int z98, .int z100, .int z102] [] cv_Rod_227 sk_0 rfl d_Rod_read_108 rfl (Nat.le_of_ble_eq_true rfl) (by decide) (by decide) (c_County_boreBy_0 h84 Ih84 z98 z98Z z98E z100 z100Z z100E z102 z102Z z102E z103 z103Z z103E z103e.symm z105 z105Z z105E z105e.symm) (fun z107 h108 z107Z z107E p109 => ?_)
                  obtain ⟨hI110, fh108⟩ := p109
                  have f111 : fr S_Rod_readX h h108 := fr_call Fh84 fh108 rfl
                  have P112 : sp2 h h108 := sp2_fr sp9 fh108 rfl
                  refine V_if_ge 131 z107E d_Rod_read_111 (by decide) (fun c113 => ?_) (fun c113 => ?_)
                  ·
                    obtain ⟨z114, z114E, z114e⟩ : ∃ y : Int32, y.toInt = v83Z + 1 ∧ y = v83 + Int32.ofInt 1 := ⟨_, ti_add v83E (by decide) (by omega), rfl⟩
                    refine V_iinc 7 [some (.ref 85), some (.int k), some (.int l), some (.int f), some (.int n), some (.ref 110), some (.int z70), some (.int z114), some (.int z97)] d_Rod_read_131 rfl z114e.symm (by decide) rfl rfl ?_
                    refine V_goto 61 d_Rod_read_134 (by decide) ?_
                    refine V_drop 8 [some (.ref 85), some (.int k), some (.int l), some (.int f), some (.int n), some (.ref 110), some (.int z70), some (.int z114), none] rfl ?_
                    exact ihL81 z114 ((v83Z + 1)) h108 z114E hI110 f111 (by omega) P112 (by omega)
                  ·
                    refine V_aload_n 0 d_Rod_read_114 rfl rfl ?_
                    refine V_getR fa_Rod_12 sk_85 rfl d_Rod_read_115 ?_
                    refine V_aload_n 0 d_Rod_read_118 rfl rfl ?_
                    refine V_getR fa_Rod_16 sk_85 rfl d_Rod_read_119 ?_
                    obtain ⟨z115, z115Z, z115E, z115e⟩ : ∃ (y : Int32) (Y : Int), y.toInt = Y ∧ y = h108.1 17 3 := ⟨_, _, rfl, rfl⟩
                    obtain ⟨z116, z116Z, z116E, z116e⟩ : ∃ (y : Int32) (Y : Int), y.toInt = Y ∧ y = h108.1 17 4 := ⟨_, _, rfl, rfl⟩
                    refine N_callVV [.ref 17] [] cv_Rod_84 sk_0 rfl d_Rod_read_122 rfl (Nat.le_of_ble_eq_true rfl) (by decide) (by decide) (c_County_copyX_0_1 h108 hI110 z115 z115Z z115E z115e.symm z116 z116Z z116E z116e.symm) (fun h118 p119 => ?_)
                    obtain ⟨hI120, fh118, p119⟩ := p119
                    have f121 : fr S_Rod_readX h h118 := fr_call f111 fh118 rfl
                    have P122 : cA h h118 := sp2_back P112 p119
                    refine V_bipush (-20) d_Rod_read_125 (by decide) ?_
                    refine V_iload d_Rod_read_127 rfl ?_
                    refine V_isub tc_m20 v83E (by omega) d_Rod_read_129 (fun z123 z123e z123E => ?_)
                    exact V_iret rfl d_Rod_read_130 ⟨z123, rfl, ⟨hI120, f121, P122⟩⟩
            exact L81 (Int.toNat ((z70Z - 0 : Int) + 1)) 0 0 h76 tc_0 hI78 f79 (by omega) P80 (by omega)
          ·
            refine V_aald (r := 112) sk_107 (by decide) kE (by omega) (by rw [c11]; rfl) d_Rod_read_33 ?_
            refine V_astore 5 [some (.ref 85), some (.int k), some (.int l), some (.int f), some (.int n), some (.ref 112), none, none, none] d_Rod_read_34 (by decide) rfl rfl ?_
            refine V_aload d_Rod_read_36 rfl ?_
            refine V_iload_n 2 d_Rod_read_38 rfl rfl ?_
            refine V_iload_n 3 d_Rod_read_39 rfl rfl ?_
            refine V_iload d_Rod_read_40 rfl ?_
            obtain ⟨z124, z124Z, z124E, z124e⟩ : ∃ (y : Int32) (Y : Int), y.toInt = Y ∧ y = h.1 112 2 := ⟨_, _, rfl, rfl⟩
            have g125 : 0 ≤ z124Z ∧ z124Z ≤ 40 := inv_at hI z124E z124e rfl
            refine N_callVI [.int l, .int f, .int n] [] cv_Rod_300 sk_112 rfl d_Rod_read_42 rfl (Nat.le_of_ble_eq_true rfl) (by decide) (by decide) (c_Sheet_wholeBores_2 h hI l lZ lE f fZ fE n nZ nE z124 z124Z z124E z124e.symm (by omega)) (fun z126 h127 z126Z z126E p128 => ?_)
            obtain ⟨eh127, p128⟩ := p128
            subst eh127
            refine V_istore 6 [some (.ref 85), some (.int k), some (.int l), some (.int f), some (.int n), some (.ref 112), some (.int z126), none, none] d_Rod_read_45 (by decide) rfl rfl ?_
            refine V_aload_n 0 d_Rod_read_47 rfl rfl ?_
            refine V_getR fa_Rod_16 sk_85 rfl d_Rod_read_48 ?_
            refine V_aload_n 0 d_Rod_read_51 rfl rfl ?_
            refine V_getR fa_Rod_12 sk_85 rfl d_Rod_read_52 ?_
            obtain ⟨z129, z129Z, z129E, z129e⟩ : ∃ (y : Int32) (Y : Int), y.toInt = Y ∧ y = h.1 0 3 := ⟨_, _, rfl, rfl⟩
            obtain ⟨z130, z130Z, z130E, z130e⟩ : ∃ (y : Int32) (Y : Int), y.toInt = Y ∧ y = h.1 0 4 := ⟨_, _, rfl, rfl⟩
            refine N_callVV [.ref 0] [] cv_Rod_84 sk_17 rfl d_Rod_read_55 rfl (Nat.le_of_ble_eq_true rfl) (by decide) (by decide) (c_County_copyX_1_0 h hI z129 z129Z z129E z129e.symm z130 z130Z z130E z130e.symm) (fun h132 p133 => ?_)
            obtain ⟨hI134, fh132, p133⟩ := p133
            have f135 : fr S_Rod_readX h h132 := fr_call f0 fh132 rfl
            have P136 : sp2 h h132 := sp2_of p133 fh132 rfl
            refine V_iconst 0 d_Rod_read_58 (by decide) ?_
            refine V_istore 7 [some (.ref 85), some (.int k), some (.int l), some (.int f), some (.int n), some (.ref 112), some (.int z126), some (.int 0), none] d_Rod_read_59 (by decide) rfl rfl ?_
            have L137 : ∀ (nn : Nat) (v139 : Int32) (v139Z : Int) (h140 : Hp), v139.toInt = v139Z → Inv h140 → fr S_Rod_readX h h140 → 0 ≤ v139Z ∧ v139Z ≤ z126Z → sp2 h h140 → z126Z - v139Z < (nn : Int) → V R_Rod b_Rod_read 9 (some .int) 3 102 (q_Rod_readX h k kZ l lZ f fZ n nZ) h140 61 [some (.ref 85), some (.int k), some (.int l), some (.int f), some (.int n), some (.ref 112), some (.int z126), some (.int v139), none] [] := by
              intro nn
              induction nn with
              | zero => intro v139 v139Z h140 v139E Ih140 Fh140 q141 q142 hm143; exact absurd hm143 (by omega)
              | succ nn ihL137 =>
                intro v139 v139Z h140 v139E Ih140 Fh140 q141 q142 hm143
                have sp9 : sp2 h h140 := by assumption
                refine V_iload d_Rod_read_61 rfl ?_
                refine V_iload d_Rod_read_63 rfl ?_
                refine V_icmp_ge 137 v139E z126E d_Rod_read_65 (by decide) (fun c144 => ?_) (fun c144 => ?_)
                ·
                  refine V_aload_n 0 d_Rod_read_137 rfl rfl ?_
                  refine V_aload d_Rod_read_138 rfl ?_
                  refine V_iload_n 2 d_Rod_read_140 rfl rfl ?_
                  refine V_iload d_Rod_read_141 rfl ?_
                  refine V_iload d_Rod_read_143 rfl ?_
                  refine N_callVI [.int l, .int n, .int z126] [.ref 85] cv_Rod_306 sk_112 rfl d_Rod_read_145 rfl (Nat.le_of_ble_eq_true rfl) (by decide) (by decide) (c_Sheet_readFault_2 h140 Ih140 l lZ lE n nZ nE z126 z126Z z126E) (fun z145 h146 z145Z z145E p147 => ?_)
                  subst p147
                  refine N_putI fp_Rod_309 sk_85 rfl d_Rod_read_148 (fun h148 eh148 => ?_)
                  have hI149 : Inv h148 := inv_full Ih140 eh148 rfl
                  have f150 : fr S_Rod_readX h h148 := fr_put Fh140 eh148 rfl
                  have P151 : sp2 h h148 := sp2_put sp9 eh148 (by decide)
                  refine V_iload d_Rod_read_151 rfl ?_
                  exact V_iret rfl d_Rod_read_153 ⟨z126, rfl, ⟨hI149, f150, (sp2_c P151)⟩⟩
                ·
                  refine V_iload_n 3 d_Rod_read_68 rfl rfl ?_
                  refine V_iconst 3 d_Rod_read_69 (by decide) ?_
                  refine V_iload d_Rod_read_70 rfl ?_
                  refine V_imul tc_3 v139E (by omega) d_Rod_read_72 (fun z152 z152e z152E => ?_)
                  refine V_iadd fE z152E (by omega) d_Rod_read_73 (fun z153 z153e z153E => ?_)
                  refine V_istore 8 [some (.ref 85), some (.int k), some (.int l), some (.int f), some (.int n), some (.ref 112), some (.int z126), some (.int v139), some (.int z153)] d_Rod_read_74 (by decide) rfl rfl ?_
                  refine V_aload_n 0 d_Rod_read_76 rfl rfl ?_
                  refine V_getR fa_Rod_12 sk_85 rfl d_Rod_read_77 ?_
                  refine V_aload d_Rod_read_80 rfl ?_
                  refine V_getR fa_Rod_303 sk_112 rfl d_Rod_read_82 ?_
                  refine V_iload d_Rod_read_85 rfl ?_
                  refine N_iald sk_113 z153E (by omega) d_Rod_read_87 (fun z154 z154Z z154E z154e => ?_)
                  refine V_aload d_Rod_read_88 rfl ?_
                  refine V_getR fa_Rod_303 sk_112 rfl d_Rod_read_90 ?_
                  refine V_iload d_Rod_read_93 rfl ?_
                  refine V_iconst 1 d_Rod_read_95 (by decide) ?_
                  refine V_iadd z153E tc_1 (by omega) d_Rod_read_96 (fun z155 z155e z155E => ?_)
                  refine N_iald sk_113 z155E (by omega) d_Rod_read_97 (fun z156 z156Z z156E z156e => ?_)
                  refine V_aload d_Rod_read_98 rfl ?_
                  refine V_getR fa_Rod_303 sk_112 rfl d_Rod_read_100 ?_
                  refine V_iload d_Rod_read_103 rfl ?_
                  refine V_iconst 2 d_Rod_read_105 (by decide) ?_
                  refine V_iadd z153E tc_2 (by omega) d_Rod_read_106 (fun z157 z157e z157E => ?_)
                  refine N_iald sk_113 z157E (by omega) d_Rod_read_107 (fun z158 z158Z z158E z158e => ?_)
                  obtain ⟨z159, z159Z, z159E, z159e⟩ : ∃ (y : Int32) (Y : Int), y.toInt = Y ∧ y = h140.1 1 0 := ⟨_, _, rfl, rfl⟩
                  have g160 : 2 ≤ z159Z ∧ z159Z ≤ 4 := inv_at Ih140 z159E z159e rfl
                  obtain ⟨z161, z161Z, z161E, z161e⟩ : ∃ (y : Int32) (Y : Int), y.toInt = Y ∧ y = h140.1 1 1 := ⟨_, _, rfl, rfl⟩
                  have g162 : 2 ≤ z161Z ∧ z161Z ≤ 4 := inv_at Ih140 z161E z161e rfl
                  refine N_callVI [.int z154, .int z156, .int z158] [] cv_Rod_227 sk_0 rfl d_Rod_read_108 rfl (Nat.le_of_ble_eq_true rfl) (by decide) (by decide) (c_County_boreBy_0 h140 Ih140 z154 z154Z z154E z156 z156Z z156E z158 z158Z z158E z159 z159Z z159E z159e.symm z161 z161Z z161E z161e.symm) (fun z163 h164 z163Z z163E p165 => ?_)
                  obtain ⟨hI166, fh164⟩ := p165
                  have f167 : fr S_Rod_readX h h164 := fr_call Fh140 fh164 rfl
                  have P168 : sp2 h h164 := sp2_fr sp9 fh164 rfl
                  refine V_if_ge 131 z163E d_Rod_read_111 (by decide) (fun c169 => ?_) (fun c169 => ?_)
                  ·
                    obtain ⟨z170, z170E, z170e⟩ : ∃ y : Int32, y.toInt = v139Z + 1 ∧ y = v139 + Int32.ofInt 1 := ⟨_, ti_add v139E (by decide) (by omega), rfl⟩
                    refine V_iinc 7 [some (.ref 85), some (.int k), some (.int l), some (.int f), some (.int n), some (.ref 112), some (.int z126), some (.int z170), some (.int z153)] d_Rod_read_131 rfl z170e.symm (by decide) rfl rfl ?_
                    refine V_goto 61 d_Rod_read_134 (by decide) ?_
                    refine V_drop 8 [some (.ref 85), some (.int k), some (.int l), some (.int f), some (.int n), some (.ref 112), some (.int z126), some (.int z170), none] rfl ?_
                    exact ihL137 z170 ((v139Z + 1)) h164 z170E hI166 f167 (by omega) P168 (by omega)
                  ·
                    refine V_aload_n 0 d_Rod_read_114 rfl rfl ?_
                    refine V_getR fa_Rod_12 sk_85 rfl d_Rod_read_115 ?_
                    refine V_aload_n 0 d_Rod_read_118 rfl rfl ?_
                    refine V_getR fa_Rod_16 sk_85 rfl d_Rod_read_119 ?_
                    obtain ⟨z171, z171Z, z171E, z171e⟩ : ∃ (y : Int32) (Y : Int), y.toInt = Y ∧ y = h164.1 17 3 := ⟨_, _, rfl, rfl⟩
                    obtain ⟨z172, z172Z, z172E, z172e⟩ : ∃ (y : Int32) (Y : Int), y.toInt = Y ∧ y = h164.1 17 4 := ⟨_, _, rfl, rfl⟩
                    refine N_callVV [.ref 17] [] cv_Rod_84 sk_0 rfl d_Rod_read_122 rfl (Nat.le_of_ble_eq_true rfl) (by decide) (by decide) (c_County_copyX_0_1 h164 hI166 z171 z171Z z171E z171e.symm z172 z172Z z172E z172e.symm) (fun h174 p175 => ?_)
                    obtain ⟨hI176, fh174, p175⟩ := p175
                    have f177 : fr S_Rod_readX h h174 := fr_call f167 fh174 rfl
                    have P178 : cA h h174 := sp2_back P168 p175
                    refine V_bipush (-20) d_Rod_read_125 (by decide) ?_
                    refine V_iload d_Rod_read_127 rfl ?_
                    refine V_isub tc_m20 v139E (by omega) d_Rod_read_129 (fun z179 z179e z179E => ?_)
                    exact V_iret rfl d_Rod_read_130 ⟨z179, rfl, ⟨hI176, f177, P178⟩⟩
            exact L137 (Int.toNat ((z126Z - 0 : Int) + 1)) 0 0 h132 tc_0 hI134 f135 (by omega) P136 (by omega)
          ·
            refine V_aald (r := 114) sk_107 (by decide) kE (by omega) (by rw [c11]; rfl) d_Rod_read_33 ?_
            refine V_astore 5 [some (.ref 85), some (.int k), some (.int l), some (.int f), some (.int n), some (.ref 114), none, none, none] d_Rod_read_34 (by decide) rfl rfl ?_
            refine V_aload d_Rod_read_36 rfl ?_
            refine V_iload_n 2 d_Rod_read_38 rfl rfl ?_
            refine V_iload_n 3 d_Rod_read_39 rfl rfl ?_
            refine V_iload d_Rod_read_40 rfl ?_
            obtain ⟨z180, z180Z, z180E, z180e⟩ : ∃ (y : Int32) (Y : Int), y.toInt = Y ∧ y = h.1 114 2 := ⟨_, _, rfl, rfl⟩
            have g181 : 0 ≤ z180Z ∧ z180Z ≤ 40 := inv_at hI z180E z180e rfl
            refine N_callVI [.int l, .int f, .int n] [] cv_Rod_300 sk_114 rfl d_Rod_read_42 rfl (Nat.le_of_ble_eq_true rfl) (by decide) (by decide) (c_Sheet_wholeBores_3 h hI l lZ lE f fZ fE n nZ nE z180 z180Z z180E z180e.symm (by omega)) (fun z182 h183 z182Z z182E p184 => ?_)
            obtain ⟨eh183, p184⟩ := p184
            subst eh183
            refine V_istore 6 [some (.ref 85), some (.int k), some (.int l), some (.int f), some (.int n), some (.ref 114), some (.int z182), none, none] d_Rod_read_45 (by decide) rfl rfl ?_
            refine V_aload_n 0 d_Rod_read_47 rfl rfl ?_
            refine V_getR fa_Rod_16 sk_85 rfl d_Rod_read_48 ?_
            refine V_aload_n 0 d_Rod_read_51 rfl rfl ?_
            refine V_getR fa_Rod_12 sk_85 rfl d_Rod_read_52 ?_
            obtain ⟨z185, z185Z, z185E, z185e⟩ : ∃ (y : Int32) (Y : Int), y.toInt = Y ∧ y = h.1 0 3 := ⟨_, _, rfl, rfl⟩
            obtain ⟨z186, z186Z, z186E, z186e⟩ : ∃ (y : Int32) (Y : Int), y.toInt = Y ∧ y = h.1 0 4 := ⟨_, _, rfl, rfl⟩
            refine N_callVV [.ref 0] [] cv_Rod_84 sk_17 rfl d_Rod_read_55 rfl (Nat.le_of_ble_eq_true rfl) (by decide) (by decide) (c_County_copyX_1_0 h hI z185 z185Z z185E z185e.symm z186 z186Z z186E z186e.symm) (fun h188 p189 => ?_)
            obtain ⟨hI190, fh188, p189⟩ := p189
            have f191 : fr S_Rod_readX h h188 := fr_call f0 fh188 rfl
            have P192 : sp2 h h188 := sp2_of p189 fh188 rfl
            refine V_iconst 0 d_Rod_read_58 (by decide) ?_
            refine V_istore 7 [some (.ref 85), some (.int k), some (.int l), some (.int f), some (.int n), some (.ref 114), some (.int z182), some (.int 0), none] d_Rod_read_59 (by decide) rfl rfl ?_
            have L193 : ∀ (nn : Nat) (v195 : Int32) (v195Z : Int) (h196 : Hp), v195.toInt = v195Z → Inv h196 → fr S_Rod_readX h h196 → 0 ≤ v195Z ∧ v195Z ≤ z182Z → sp2 h h196 → z182Z - v195Z < (nn : Int) → V R_Rod b_Rod_read 9 (some .int) 3 102 (q_Rod_readX h k kZ l lZ f fZ n nZ) h196 61 [some (.ref 85), some (.int k), some (.int l), some (.int f), some (.int n), some (.ref 114), some (.int z182), some (.int v195), none] [] := by
              intro nn
              induction nn with
              | zero => intro v195 v195Z h196 v195E Ih196 Fh196 q197 q198 hm199; exact absurd hm199 (by omega)
              | succ nn ihL193 =>
                intro v195 v195Z h196 v195E Ih196 Fh196 q197 q198 hm199
                have sp9 : sp2 h h196 := by assumption
                refine V_iload d_Rod_read_61 rfl ?_
                refine V_iload d_Rod_read_63 rfl ?_
                refine V_icmp_ge 137 v195E z182E d_Rod_read_65 (by decide) (fun c200 => ?_) (fun c200 => ?_)
                ·
                  refine V_aload_n 0 d_Rod_read_137 rfl rfl ?_
                  refine V_aload d_Rod_read_138 rfl ?_
                  refine V_iload_n 2 d_Rod_read_140 rfl rfl ?_
                  refine V_iload d_Rod_read_141 rfl ?_
                  refine V_iload d_Rod_read_143 rfl ?_
                  refine N_callVI [.int l, .int n, .int z182] [.ref 85] cv_Rod_306 sk_114 rfl d_Rod_read_145 rfl (Nat.le_of_ble_eq_true rfl) (by decide) (by decide) (c_Sheet_readFault_3 h196 Ih196 l lZ lE n nZ nE z182 z182Z z182E) (fun z201 h202 z201Z z201E p203 => ?_)
                  subst p203
                  refine N_putI fp_Rod_309 sk_85 rfl d_Rod_read_148 (fun h204 eh204 => ?_)
                  have hI205 : Inv h204 := inv_full Ih196 eh204 rfl
                  have f206 : fr S_Rod_readX h h204 := fr_put Fh196 eh204 rfl
                  have P207 : sp2 h h204 := sp2_put sp9 eh204 (by decide)
                  refine V_iload d_Rod_read_151 rfl ?_
                  exact V_iret rfl d_Rod_read_153 ⟨z182, rfl, ⟨hI205, f206, (sp2_c P207)⟩⟩
                ·
                  refine V_iload_n 3 d_Rod_read_68 rfl rfl ?_
                  refine V_iconst 3 d_Rod_read_69 (by decide) ?_
                  refine V_iload d_Rod_read_70 rfl ?_
                  refine V_imul tc_3 v195E (by omega) d_Rod_read_72 (fun z208 z208e z208E => ?_)
                  refine V_iadd fE z208E (by omega) d_Rod_read_73 (fun z209 z209e z209E => ?_)
                  refine V_istore 8 [some (.ref 85), some (.int k), some (.int l), some (.int f), some (.int n), some (.ref 114), some (.int z182), some (.int v195), some (.int z209)] d_Rod_read_74 (by decide) rfl rfl ?_
                  refine V_aload_n 0 d_Rod_read_76 rfl rfl ?_
                  refine V_getR fa_Rod_12 sk_85 rfl d_Rod_read_77 ?_
                  refine V_aload d_Rod_read_80 rfl ?_
                  refine V_getR fa_Rod_303 sk_114 rfl d_Rod_read_82 ?_
                  refine V_iload d_Rod_read_85 rfl ?_
                  refine N_iald sk_115 z209E (by omega) d_Rod_read_87 (fun z210 z210Z z210E z210e => ?_)
                  refine V_aload d_Rod_read_88 rfl ?_
                  refine V_getR fa_Rod_303 sk_114 rfl d_Rod_read_90 ?_
                  refine V_iload d_Rod_read_93 rfl ?_
                  refine V_iconst 1 d_Rod_read_95 (by decide) ?_
                  refine V_iadd z209E tc_1 (by omega) d_Rod_read_96 (fun z211 z211e z211E => ?_)
                  refine N_iald sk_115 z211E (by omega) d_Rod_read_97 (fun z212 z212Z z212E z212e => ?_)
                  refine V_aload d_Rod_read_98 rfl ?_
                  refine V_getR fa_Rod_303 sk_114 rfl d_Rod_read_100 ?_
                  refine V_iload d_Rod_read_103 rfl ?_
                  refine V_iconst 2 d_Rod_read_105 (by decide) ?_
                  refine V_iadd z209E tc_2 (by omega) d_Rod_read_106 (fun z213 z213e z213E => ?_)
                  refine N_iald sk_115 z213E (by omega) d_Rod_read_107 (fun z214 z214Z z214E z214e => ?_)
                  obtain ⟨z215, z215Z, z215E, z215e⟩ : ∃ (y : Int32) (Y : Int), y.toInt = Y ∧ y = h196.1 1 0 := ⟨_, _, rfl, rfl⟩
                  have g216 : 2 ≤ z215Z ∧ z215Z ≤ 4 := inv_at Ih196 z215E z215e rfl
                  obtain ⟨z217, z217Z, z217E, z217e⟩ : ∃ (y : Int32) (Y : Int), y.toInt = Y ∧ y = h196.1 1 1 := ⟨_, _, rfl, rfl⟩
                  have g218 : 2 ≤ z217Z ∧ z217Z ≤ 4 := inv_at Ih196 z217E z217e rfl
                  refine N_callVI [.int z210, .int z212, .int z214] [] cv_Rod_227 sk_0 rfl d_Rod_read_108 rfl (Nat.le_of_ble_eq_true rfl) (by decide) (by decide) (c_County_boreBy_0 h196 Ih196 z210 z210Z z210E z212 z212Z z212E z214 z214Z z214E z215 z215Z z215E z215e.symm z217 z217Z z217E z217e.symm) (fun z219 h220 z219Z z219E p221 => ?_)
                  obtain ⟨hI222, fh220⟩ := p221
                  have f223 : fr S_Rod_readX h h220 := fr_call Fh196 fh220 rfl
                  have P224 : sp2 h h220 := sp2_fr sp9 fh220 rfl
                  refine V_if_ge 131 z219E d_Rod_read_111 (by decide) (fun c225 => ?_) (fun c225 => ?_)
                  ·
                    obtain ⟨z226, z226E, z226e⟩ : ∃ y : Int32, y.toInt = v195Z + 1 ∧ y = v195 + Int32.ofInt 1 := ⟨_, ti_add v195E (by decide) (by omega), rfl⟩
                    refine V_iinc 7 [some (.ref 85), some (.int k), some (.int l), some (.int f), some (.int n), some (.ref 114), some (.int z182), some (.int z226), some (.int z209)] d_Rod_read_131 rfl z226e.symm (by decide) rfl rfl ?_
                    refine V_goto 61 d_Rod_read_134 (by decide) ?_
                    refine V_drop 8 [some (.ref 85), some (.int k), some (.int l), some (.int f), some (.int n), some (.ref 114), some (.int z182), some (.int z226), none] rfl ?_
                    exact ihL193 z226 ((v195Z + 1)) h220 z226E hI222 f223 (by omega) P224 (by omega)
                  ·
                    refine V_aload_n 0 d_Rod_read_114 rfl rfl ?_
                    refine V_getR fa_Rod_12 sk_85 rfl d_Rod_read_115 ?_
                    refine V_aload_n 0 d_Rod_read_118 rfl rfl ?_
                    refine V_getR fa_Rod_16 sk_85 rfl d_Rod_read_119 ?_
                    obtain ⟨z227, z227Z, z227E, z227e⟩ : ∃ (y : Int32) (Y : Int), y.toInt = Y ∧ y = h220.1 17 3 := ⟨_, _, rfl, rfl⟩
                    obtain ⟨z228, z228Z, z228E, z228e⟩ : ∃ (y : Int32) (Y : Int), y.toInt = Y ∧ y = h220.1 17 4 := ⟨_, _, rfl, rfl⟩
                    refine N_callVV [.ref 17] [] cv_Rod_84 sk_0 rfl d_Rod_read_122 rfl (Nat.le_of_ble_eq_true rfl) (by decide) (by decide) (c_County_copyX_0_1 h220 hI222 z227 z227Z z227E z227e.symm z228 z228Z z228E z228e.symm) (fun h230 p231 => ?_)
                    obtain ⟨hI232, fh230, p231⟩ := p231
                    have f233 : fr S_Rod_readX h h230 := fr_call f223 fh230 rfl
                    have P234 : cA h h230 := sp2_back P224 p231
                    refine V_bipush (-20) d_Rod_read_125 (by decide) ?_
                    refine V_iload d_Rod_read_127 rfl ?_
                    refine V_isub tc_m20 v195E (by omega) d_Rod_read_129 (fun z235 z235e z235E => ?_)
                    exact V_iret rfl d_Rod_read_130 ⟨z235, rfl, ⟨hI232, f233, P234⟩⟩
            exact L193 (Int.toNat ((z182Z - 0 : Int) + 1)) 0 0 h188 tc_0 hI190 f191 (by omega) P192 (by omega)
        ·
          refine V_iconst (-1) d_Rod_read_26 (by decide) ?_
          exact V_iret rfl d_Rod_read_27 ⟨(-1), rfl, ⟨hI, f0, (fun _ _ _ _ => rfl)⟩⟩
end
section
theorem x_D_111 {b : Int → Int} {T : Nat → Int → Int} {D : Nat → Int} {p : Int} (h : (x_line b T (D 86) p).1 = 0) (g : x_good D) : x_D b D p 111 = D 111 := by
  have hH : x_cH b T (D 86) p = 0 := (x_sq_0 h).1
  have hs := x_cH_s b T (D 86) p
  have hb := x_ln_b b (x_fr b p) (x_en b p)
  have hl : x_li b p = 0 ∨ x_li b p = 1 ∨ x_li b p = 2 ∨ x_li b p = 3 ∨ x_li b p = 4 ∨ x_li b p = 5 ∨ x_li b p = 6 ∨ x_li b p = 7 ∨ x_li b p = 8 ∨ x_li b p = 9 := by
    have e : x_li b p = x_ln b (x_fr b p) (x_en b p) := rfl
    have h2 : x_li b p ≠ -1 := by
      rcases hs with q | q | q | q | q | q
      · exact absurd (q.2.symm.trans hH) (by decide)
      · exact absurd (q.2.2.symm.trans hH) (by decide)
      · exact absurd (q.2.2.symm.trans hH) (by decide)
      · exact q.2.1
      · omega
      · exact q.2.1
    omega
  rcases hl with hl | hl | hl | hl | hl | hl | hl | hl | hl | hl
  · rw [x_line_0 rfl hH hl] at h
    rw [x_D_0 D rfl hl]
    rw [x_up_n (i := 111) (by decide), x_up_n (i := 111) (by decide)]
  · rw [x_line_1 rfl hH hl] at h
    rw [x_D_1 D rfl hl]
    unfold x_l1 at h
    have h1 := x_sq_0 h
    have a1 := x_cN_s b (x_en b p) 0 15
    exact x_up_n (by omega)
  · rw [x_line_2 rfl hH hl] at h
    rw [x_D_2 D rfl hl]
    unfold x_l2 at h
    have h1 := x_sq_0 h
    have a1 := x_cN_s b (x_en b p) 0 15
    exact x_up_n (by omega)
  · rw [x_line_3 rfl hH hl] at h
    rw [x_D_3 D rfl hl]
    unfold x_l3 at h
    have h1 := x_sq_0 h
    have a1 := x_cN_s b (x_en b p) 0 15
    exact x_up_n (by omega)
  · rw [x_line_4 rfl hH hl] at h
    rw [x_D_4 D rfl hl]
    unfold x_l4 at h
    have h1 := x_sq_0 h
    have a1 := x_cN_s b (x_en b p) 0 15
    exact x_up_n (by omega)
  · rw [x_line_5 rfl hH hl] at h
    rw [x_D_5 D rfl hl]
    unfold x_l5 at h
    have h1 := x_sq_0 h
    have a1 := x_cN_s b (x_en b p) 0 3
    exact x_up_n (by omega)
  · rw [x_line_6 rfl hH hl] at h
    rw [x_D_6 D rfl hl]
    exact x_up_n (by decide)
  · rw [x_line_7 rfl hH hl] at h
    rw [x_D_7 D rfl hl]
    exact x_up_n (by decide)
  · rw [x_line_8 rfl hH hl] at h
    rw [x_D_8 D rfl hl]
    rw [x_up_n (i := 111) (by decide), x_up_n (i := 111) (by decide)]
  · rw [x_line_9 rfl hH hl] at h
    rw [x_D_9 D rfl hl]
    have hm : D 86 < 8 := by
      rcases hs with q | q | q | q | q | q
      · exact absurd (q.2.symm.trans hH) (by decide)
      · exact absurd (q.2.2.symm.trans hH) (by decide)
      · exact absurd (q.2.2.symm.trans hH) (by decide)
      · exact absurd (q.2.2.2.symm.trans hH) (by decide)
      · exact absurd (q.2.2.2.symm.trans hH) (by decide)
      · omega
    unfold x_good at g
    rw [x_up_n (i := 111) (by omega), x_up_n (i := 111) (by omega), x_up_n (i := 111) (by omega), x_up_n (i := 111) (by omega)]
theorem x_111 {b : Int → Int} : ∀ k : Nat, x_ok b k → (x_st b k).2.1 111 = 0 := by
  intro k
  induction k with
  | zero => intro _; rfl
  | succ k ih => intro h; exact (x_D_111 (h k (by omega)).2 (x_good_k k (fun j hj => h j (by omega)))).trans (ih (fun j hj => h j (by omega)))
def TC (h : Hp) (D : Nat → Int) : Prop := (∀ k i d : Nat, dof (68 + k) i = some d → (h.1 k i).toInt = D d) ∧ ∀ i : Nat, i < 8 → (i : Int) < D 86 → (h.1 9 i).toInt = D (87 + 3 * i) ∧ (h.1 10 i).toInt = D (88 + 3 * i) ∧ (h.1 11 i).toInt = D (89 + 3 * i)
def TK (h h' : Hp) (e : Int) (D : Nat → Int) : Prop := e = 0 ∧ TC h' D ∧ h'.1 87 0 = 0 ∧ h'.1 87 1 = 0 ∨ e ≠ 0 ∧ ∀ k i : Nat, k ≤ 16 ∨ k = 87 → h'.1 k i = h.1 k i
theorem TC_of {h h1 : Hp} {T : Nat → Int → Int} {D : Nat → Int} (r : RC h T D) (c : cpy h h1 0 68) : TC h1 D := by
  refine ⟨fun k i d hd => ?_, fun i hi hc => ?_⟩
  · have g := c k i (dof_c hd).1
    rw [Nat.zero_add] at g
    rw [g]
    exact r.2.1 _ i d hd
  · have g9 := c 9 i (by unfold cpl; omega)
    have g10 := c 10 i (by unfold cpl; omega)
    have g11 := c 11 i (by unfold cpl; omega)
    rw [Nat.zero_add] at g9 g10 g11
    rw [g9, g10, g11]
    exact r.2.2 i hc
theorem TC_ne {h h1 : Hp} {D : Nat → Int} {k' i' : Nat} {x : Int32} (r : TC h D) (e : h1 = pI h k' i' x) (hk : 16 < k') : TC h1 D := by
  refine ⟨fun k i d hd => ?_, fun i hi hc => ?_⟩
  · have := cpl_k (dof_c hd).1
    rw [e, pI_at, if_neg (by omega)]
    exact r.1 k i d hd
  · rw [e, pI_at, if_neg (by omega), pI_at, if_neg (by omega), pI_at, if_neg (by omega)]
    exact r.2 i hi hc
def SC (h h' : Hp) : Prop := ∀ k i : Nat, k ≤ 16 ∨ k = 87 → h'.1 k i = h.1 k i
theorem SC_rf {h : Hp} : SC h h := fun _ _ _ => rfl
theorem SC_fr {S : List (Nat × Option Nat)} {h h1 h2 : Hp} (r : SC h h1) (f : fr S h1 h2) (c1 : ckS S 0 16 = true) (c2 : ckS S 87 87 = true) : SC h h2 := fun k i hk => by
  have : inS S k i = false := by
    rcases hk with hk | hk
    · exact ckS_no c1 (by omega) hk
    · exact ckS_no c2 (by omega) (by omega)
  rw [f.1 k i this]
  exact r k i hk
theorem SC_ne {h h1 h2 : Hp} {k' i' : Nat} {x : Int32} (r : SC h h1) (e : h2 = pI h1 k' i' x) (hk : 16 < k' ∧ k' ≠ 87) : SC h h2 := fun k i h3 => by
  rw [e, pI_at, if_neg (by omega)]
  exact r k i h3
theorem JA_new {h : Hp} {D : Nat → Int} (c : TC h D) (m : MC h D) (h111 : D 111 = 0) (k0 : h.1 87 0 = 0) (k1 : h.1 87 1 = 0) (l0 : h.1 118 0 = 0) (l1 : h.1 118 1 = 0) : JA h := by
  obtain ⟨m1, m2, m3, m4, m5⟩ := m
  refine ⟨⟨fun k i d hd ha => ?_, fun i hi hc => ?_, fun i hi hc => ?_⟩, ⟨by rw [k0, l0], by rw [k1, l1]⟩, fun q => absurd k0 q, fun q => absurd k1 q⟩
  · have q := dof_c hd
    rw [Nat.zero_add]
    refine Int32.toInt_inj.mp ?_
    rw [c.1 k i d hd]
    by_cases w : d < 144
    · rw [mK_lt w, mJ_lt w, Nat.zero_add]
      exact (m1 d w).symm
    · rw [mK_ge w, mJ_ge w]
      rcases (by omega : d = 144 ∨ d = 145 ∨ d = 146 ∨ d = 147) with rfl | rfl | rfl | rfl
      · exact m2.symm
      · exact m3.symm
      · exact m4.symm
      · exact m5.symm
  · rw [Nat.zero_add, c.1 7 4 86 rfl] at hc
    obtain ⟨a1, a2, a3⟩ := c.2 i hi hc
    rw [Nat.zero_add, Nat.zero_add, Nat.zero_add, Nat.zero_add, Nat.zero_add, Nat.zero_add]
    exact ⟨Int32.toInt_inj.mp (a1.trans (m1 _ (by omega)).symm), Int32.toInt_inj.mp (a2.trans (m1 _ (by omega)).symm), Int32.toInt_inj.mp (a3.trans (m1 _ (by omega)).symm)⟩
  · rw [Nat.zero_add, c.1 12 4 111 rfl, h111] at hc
    omega
theorem TC_fr {S : List (Nat × Option Nat)} {h h1 : Hp} {D : Nat → Int} (r : TC h D) (f : fr S h h1) (c : ckS S 0 16 = true) : TC h1 D := by
  refine ⟨fun k i d hd => ?_, fun i hi hc => ?_⟩
  · rw [f.1 k i (ckS_no c (by omega) (cpl_k (dof_c hd).1))]
    exact r.1 k i d hd
  · rw [f.1 9 i (ckS_no c (by omega) (by omega)), f.1 10 i (ckS_no c (by omega) (by omega)), f.1 11 i (ckS_no c (by omega) (by omega))]
    exact r.2 i hi hc
theorem JA_text {S1 S2 : List (Nat × Option Nat)} {h h1 h2 : Hp} {b : Int → Int} {s e1 e2 : Int} {r1 r2 : Int32} {n1 n2 : Nat} (r : JA h) (f1 : fr S1 h h1) (f2 : fr S2 h1 h2) (X1 : x_tx b s r1 e1 n1) (X2 : x_tx b s r2 e2 n2) (t : TK h h1 e1 (x_st b n1).2.1) (m : MK h1 h2 e2 (x_st b n2).2.1) (s1 : ckS S1 34 67 = true) (s2 : ckS S1 116 118 = true) (s3 : ckS S2 0 115 = true) : JA h2 := by
  obtain ⟨hn, hr, hu⟩ := x_tx_un X1 X2
  subst hn
  subst hu
  have c6 : ∀ k i : Nat, k ≤ 115 → h2.1 k i = h1.1 k i := fun k i hk => f2.1 _ _ (ckS_no s3 (by omega) hk)
  rcases t with ⟨t0, t1, t2, t3⟩ | ⟨t0, t1⟩
  · rcases m with ⟨m0, m1, m2, m3⟩ | ⟨m0, m1⟩
    · exact JA_new (TC_fr t1 f2 (by
        refine List.all_eq_true.mpr (fun q hq => ?_)
        have := of_decide_eq_true (List.all_eq_true.mp s3 q hq)
        exact decide_eq_true (by omega))) m1 (x_111 n1 X1.1.1) (by rw [c6 _ _ (by omega)]; exact t2) (by rw [c6 _ _ (by omega)]; exact t3) m2 m3
    · exact absurd t0 m0
  · rcases m with ⟨m0, m1, m2, m3⟩ | ⟨m0, m1⟩
    · exact absurd m0 t0
    · have mm : ∀ k i : Nat, 116 ≤ k → k ≤ 118 → h1.1 k i = h.1 k i := fun k i p q => f1.1 _ _ (ckS_no s2 p q)
      refine JA_at (fun k i hk => ?_) r
      rcases hk with hk | hk | hk | hk | hk | hk
      · have := cpl_k hk.1
        rw [c6 _ _ (by omega)]
        exact t1 k i (Or.inl this)
      · rw [c6 _ _ (by omega)]
        exact f1.1 _ _ (ckS_no s1 hk.1 hk.2)
      · rw [hk, c6 _ _ (by omega)]
        exact t1 87 i (Or.inr rfl)
      · rw [m1 k i (Or.inr (Or.inl hk)), mm _ _ (by omega) (by omega)]
      · rw [m1 k i (Or.inl hk.1), mm _ _ (by omega) (by omega)]
      · rw [m1 k i (Or.inr (Or.inr hk)), mm _ _ (by omega) (by omega)]
end
section
def ru (a : Int) (r w g x y n m t : Int32) : Prop := a = 0 ∧ r = w ∨ a = 1 ∧ r = g ∨ a = 2 ∧ r = x ∨ a = 3 ∧ r = y ∨ a = 4 ∧ r = n ∨ a = 5 ∧ r = m ∨ a = 6 ∧ r = t ∨ (a < 0 ∨ 6 < a) ∧ r.toInt = -1
theorem ru_0 {a : Int} {r w g x y n m t : Int32} (h : a = 0) (e : r = w) : ru a r w g x y n m t := Or.inl ⟨h, e⟩
theorem ru_1 {a : Int} {r w g x y n m t : Int32} (h : a = 1) (e : r = g) : ru a r w g x y n m t := Or.inr (Or.inl ⟨h, e⟩)
theorem ru_2 {a : Int} {r w g x y n m t : Int32} (h : a = 2) (e : r = x) : ru a r w g x y n m t := Or.inr (Or.inr (Or.inl ⟨h, e⟩))
theorem ru_3 {a : Int} {r w g x y n m t : Int32} (h : a = 3) (e : r = y) : ru a r w g x y n m t := Or.inr (Or.inr (Or.inr (Or.inl ⟨h, e⟩)))
theorem ru_4 {a : Int} {r w g x y n m t : Int32} (h : a = 4) (e : r = n) : ru a r w g x y n m t := Or.inr (Or.inr (Or.inr (Or.inr (Or.inl ⟨h, e⟩))))
theorem ru_5 {a : Int} {r w g x y n m t : Int32} (h : a = 5) (e : r = m) : ru a r w g x y n m t := Or.inr (Or.inr (Or.inr (Or.inr (Or.inr (Or.inl ⟨h, e⟩)))))
theorem ru_6 {a : Int} {r w g x y n m t : Int32} (h : a = 6) (e : r = t) : ru a r w g x y n m t := Or.inr (Or.inr (Or.inr (Or.inr (Or.inr (Or.inr (Or.inl ⟨h, e⟩))))))
theorem ru_n {a : Int} {r w g x y n m t : Int32} (h : a < 0 ∨ 6 < a) (e : r.toInt = -1) : ru a r w g x y n m t := Or.inr (Or.inr (Or.inr (Or.inr (Or.inr (Or.inr (Or.inr (⟨h, e⟩)))))))
def S_Rod_textY : List (Nat × Option Nat) := [(89, some 2), (89, some 3), (89, some 4), (89, some 5), (88, some 5), (88, some 6), (88, some 4), (91, none), (92, none), (69, none), (70, none), (71, none), (72, none), (73, none), (74, none), (76, none), (68, some 3), (68, some 4), (75, some 4), (77, none), (78, none), (79, none), (80, some 4), (0, some 3), (0, some 4), (1, none), (2, none), (3, none), (4, none), (5, none), (6, none), (7, some 4), (8, none), (9, none), (10, none), (11, none), (12, some 4), (13, none), (14, none), (15, none), (16, none), (89, some 1), (87, none)]
abbrev q_Rod_textY (h : Hp) (b : Int → Int) (s : Int32) (sZ : Int) : Option Value → Hp → Prop := pInt (fun r h' => Inv h' ∧ fr S_Rod_textY h h' ∧ ∃ (v : Int32) (vZ : Int), v.toInt = vZ ∧ h'.1 89 1 = v ∧ ∃ (e : Int32) (eZ : Int), e.toInt = eZ ∧ h'.1 88 6 = e ∧ (vZ = 0 ∧ ∃ n : Nat, x_tx b sZ r eZ n ∧ TK h h' eZ (x_st b n).2.1))
set_option maxRecDepth 100000 in
theorem c_Rod_textY (h : Hp) (b : Int → Int) (hI : Inv h) (s : Int32) (sZ : Int) (sE : s.toInt = sZ) (sK : h.1 89 1 = s) (hy0 : TP h 90 sZ b) : Ct y_Rod_text b_Rod_text 3 (some .int) 9 192 [.ref 85] h (q_Rod_textY h b s sZ) := by
  refine ct_ow R_Rod [some (.ref 85), none, none] rfl (by decide) rfl (Nat.le_of_ble_eq_true rfl) ?_
  have f0 : fr S_Rod_textY h h := fr_rf
  have g1 : 0 ≤ sZ ∧ sZ ≤ 160 := inv_at hI sE sK.symm rfl
  refine V_aload_n 0 d_Rod_text_0 rfl rfl ?_
  refine V_getR fa_Rod_30 sk_85 rfl d_Rod_text_1 ?_
  refine N_callVI [] [] cv_Rod_77 sk_88 rfl d_Rod_text_4 rfl (Nat.le_of_ble_eq_true rfl) (by decide) (by decide) (c_Reader_readAllX h b hI s sZ sE sK (TP_fr f0 (fun _ => rfl) hy0)) (fun z2 h3 z2Z z2E p4 => ?_)
  obtain ⟨hI5, fh3, o7, o7Z, o7E, o7K, p4⟩ := p4
  have f6 : fr S_Rod_textY h h3 := fr_call f0 fh3 rfl
  have Q8 : SC h h3 := SC_fr SC_rf fh3 rfl rfl
  obtain ⟨n, hX, hY⟩ := p4
  refine V_istore_n 1 [some (.ref 85), some (.int z2), none] d_Rod_text_7 rfl (by decide) rfl rfl ?_
  refine V_aload_n 0 d_Rod_text_8 rfl rfl ?_
  refine V_getR fa_Rod_38 sk_85 rfl d_Rod_text_9 ?_
  refine V_iconst 0 d_Rod_text_12 (by decide) ?_
  refine N_putI fp_Rod_67 sk_89 rfl d_Rod_text_13 (fun h9 eh9 => ?_)
  have hI10 : Inv h9 := inv_put (lo := 0) (hi := 160) hI5 eh9 rfl tc_0 (by omega)
  have f11 : fr S_Rod_textY h h9 := fr_put f6 eh9 rfl
  have Q12 : SC h h9 := SC_ne Q8 eh9 (by decide)
  refine V_iload_n 1 d_Rod_text_16 rfl rfl ?_
  refine V_if_lt 54 z2E d_Rod_text_17 (by decide) (fun c13 => ?_) (fun c13 => ?_)
  ·
    obtain ⟨he, hr⟩ := hY.resolve_left (fun q => absurd q.2.1 (by omega))
    refine V_iload_n 1 d_Rod_text_54 rfl rfl ?_
    exact V_iret rfl d_Rod_text_55 ⟨z2, rfl, ⟨hI10, f11, 0, 0, tc_0, (kn_put eh9), o7, o7Z, o7E, (kn_ne eh9 o7K (by decide)), ⟨by omega, n, hX, Or.inr ⟨he, Q12⟩⟩⟩⟩
  ·
    obtain ⟨he, hr, hR0⟩ := hY.resolve_right (fun q => absurd q.2 (by omega))
    have hR := RC_ne eh9 (by decide) hR0
    refine V_aload_n 0 d_Rod_text_20 rfl rfl ?_
    refine V_getR fa_Rod_12 sk_85 rfl d_Rod_text_21 ?_
    refine V_aload_n 0 d_Rod_text_24 rfl rfl ?_
    refine V_getR fa_Rod_30 sk_85 rfl d_Rod_text_25 ?_
    refine V_getR fa_Rod_81 sk_88 rfl d_Rod_text_28 ?_
    obtain ⟨z14, z14Z, z14E, z14e⟩ : ∃ (y : Int32) (Y : Int), y.toInt = Y ∧ y = h9.1 68 3 := ⟨_, _, rfl, rfl⟩
    obtain ⟨z15, z15Z, z15E, z15e⟩ : ∃ (y : Int32) (Y : Int), y.toInt = Y ∧ y = h9.1 68 4 := ⟨_, _, rfl, rfl⟩
    refine N_callVV [.ref 68] [] cv_Rod_84 sk_0 rfl d_Rod_text_31 rfl (Nat.le_of_ble_eq_true rfl) (by decide) (by decide) (c_County_copyX_0_4 h9 hI10 z14 z14Z z14E z14e.symm z15 z15Z z15E z15e.symm) (fun h17 p18 => ?_)
    obtain ⟨hI19, fh17, p18⟩ := p18
    have f20 : fr S_Rod_textY h h17 := fr_call f11 fh17 rfl
    have Q21 : TC h17 (x_st b n).2.1 := TC_of hR p18
    refine V_iconst 0 d_Rod_text_34 (by decide) ?_
    refine V_istore_n 2 [some (.ref 85), some (.int z2), some (.int 0)] d_Rod_text_35 rfl (by decide) rfl rfl ?_
    refine V_iload_n 2 d_Rod_text_36 rfl rfl ?_
    refine V_iconst 2 d_Rod_text_37 (by decide) ?_
    refine V_icmp_ge 54 tc_0 tc_2 d_Rod_text_38 (by decide) (fun c22 => ?_) (fun c22 => ?_)
    ·
      exact absurd c22 (by decide)
    ·
      refine V_aload_n 0 d_Rod_text_41 rfl rfl ?_
      refine V_getR fa_Rod_23 sk_85 rfl d_Rod_text_42 ?_
      refine V_iload_n 2 d_Rod_text_45 rfl rfl ?_
      refine V_iconst 0 d_Rod_text_46 (by decide) ?_
      refine N_zast sk_87 tc_0 (by omega) d_Rod_text_47 (fun h23 eh23 => ?_)
      have hI24 : Inv h23 := inv_full hI19 eh23 rfl
      have f25 : fr S_Rod_textY h h23 := fr_put f20 eh23 rfl
      have Q26 : TC h23 (x_st b n).2.1 := TC_ne Q21 eh23 (by decide)
      refine V_iinc (v := 1) 2 [some (.ref 85), some (.int z2), some (.int 1)] d_Rod_text_48 rfl (by decide) (by decide) rfl rfl ?_
      refine V_goto 36 d_Rod_text_51 (by decide) ?_
      refine V_iload_n 2 d_Rod_text_36 rfl rfl ?_
      refine V_iconst 2 d_Rod_text_37 (by decide) ?_
      refine V_icmp_ge 54 tc_1 tc_2 d_Rod_text_38 (by decide) (fun c28 => ?_) (fun c28 => ?_)
      ·
        exact absurd c28 (by decide)
      ·
        refine V_aload_n 0 d_Rod_text_41 rfl rfl ?_
        refine V_getR fa_Rod_23 sk_85 rfl d_Rod_text_42 ?_
        refine V_iload_n 2 d_Rod_text_45 rfl rfl ?_
        refine V_iconst 0 d_Rod_text_46 (by decide) ?_
        refine N_zast sk_87 tc_1 (by omega) d_Rod_text_47 (fun h29 eh29 => ?_)
        have hI30 : Inv h29 := inv_full hI24 eh29 rfl
        have f31 : fr S_Rod_textY h h29 := fr_put f25 eh29 rfl
        have Q32 : TC h29 (x_st b n).2.1 := TC_ne Q26 eh29 (by decide)
        refine V_iinc (v := 2) 2 [some (.ref 85), some (.int z2), some (.int 2)] d_Rod_text_48 rfl (by decide) (by decide) rfl rfl ?_
        refine V_goto 36 d_Rod_text_51 (by decide) ?_
        refine V_iload_n 2 d_Rod_text_36 rfl rfl ?_
        refine V_iconst 2 d_Rod_text_37 (by decide) ?_
        refine V_icmp_ge 54 tc_2 tc_2 d_Rod_text_38 (by decide) (fun c34 => ?_) (fun c34 => ?_)
        ·
          refine V_iload_n 1 d_Rod_text_54 rfl rfl ?_
          exact V_iret rfl d_Rod_text_55 ⟨z2, rfl, ⟨hI30, f31, 0, 0, tc_0, (kn_ne eh29 (kn_ne eh23 (kn_call fh17 (kn_put eh9) rfl) (by decide)) (by decide)), o7, o7Z, o7E, (kn_ne eh29 (kn_ne eh23 (kn_call fh17 (kn_ne eh9 o7K (by decide)) rfl) (by decide)) (by decide)), ⟨by omega, n, hX, Or.inl ⟨he, Q32, ((kn_nei eh29 (kn_put eh23) (by decide)).trans (by decide)), ((kn_put eh29).trans (by decide))⟩⟩⟩⟩
        ·
          exact absurd c34 (by decide)
abbrev q_Rod_ruleX (h : Hp) (a : Int32) (aZ : Int) (w : Int32) (wZ : Int) (g : Int32) (gZ : Int) (x : Int32) (xZ : Int) (y : Int32) (yZ : Int) (n : Int32) (nZ : Int) (m : Int32) (mZ : Int) (t : Int32) (tZ : Int) : Option Value → Hp → Prop := pInt (fun r h' => h = h' ∧ (ru aZ r w g x y n m t))
set_option maxRecDepth 100000 in
theorem c_Rod_ruleX (h : Hp) (hI : Inv h) (a : Int32) (aZ : Int) (aE : a.toInt = aZ) (w : Int32) (wZ : Int) (wE : w.toInt = wZ) (wK : h.1 1 0 = w) (g : Int32) (gZ : Int) (gE : g.toInt = gZ) (gK : h.1 1 1 = g) (x : Int32) (xZ : Int) (xE : x.toInt = xZ) (xK : h.1 1 2 = x) (y : Int32) (yZ : Int) (yE : y.toInt = yZ) (yK : h.1 1 3 = y) (n : Int32) (nZ : Int) (nE : n.toInt = nZ) (nK : h.1 0 3 = n) (m : Int32) (mZ : Int) (mE : m.toInt = mZ) (mK : h.1 0 4 = m) (t : Int32) (tZ : Int) (tE : t.toInt = tZ) (tK : h.1 7 4 = t) : Ct y_Rod_rule b_Rod_rule 2 (some .int) 0 0 [.ref 85, .int a] h (q_Rod_ruleX h a aZ w wZ g gZ x xZ y yZ n nZ m mZ t tZ) := by
  refine ct_ow R_Rod [some (.ref 85), some (.int a)] rfl (by decide) rfl (Nat.le_of_ble_eq_true rfl) ?_
  have f0 : fr [] h h := fr_rf
  have g1 : 2 ≤ wZ ∧ wZ ≤ 4 := inv_at hI wE wK.symm rfl
  have g2 : 2 ≤ gZ ∧ gZ ≤ 4 := inv_at hI gE gK.symm rfl
  have g3 : 0 ≤ tZ ∧ tZ ≤ 8 := inv_at hI tE tK.symm rfl
  refine V_iload_n 1 d_Rod_rule_0 rfl rfl ?_
  rcases (by omega : (aZ < 0 ∨ 6 < aZ) ∨ aZ = 0 ∨ aZ = 1 ∨ aZ = 2 ∨ aZ = 3 ∨ aZ = 4 ∨ aZ = 5 ∨ aZ = 6) with c4 | c4 | c4 | c4 | c4 | c4 | c4 | c4
  ·
    refine V_tabOut 115 aE d_Rod_rule_1 c4 (by decide) ?_
    refine V_iconst (-1) d_Rod_rule_115 (by decide) ?_
    exact V_iret rfl d_Rod_rule_116 ⟨(-1), rfl, ⟨rfl, (ru_n (by omega) tc_m1)⟩⟩
  ·
    refine V_tabIn 44 aE d_Rod_rule_1 (by omega) (by omega) (by rw [c4]; rfl) (by decide) ?_
    refine V_aload_n 0 d_Rod_rule_44 rfl rfl ?_
    refine V_getR fa_Rod_12 sk_85 rfl d_Rod_rule_45 ?_
    refine V_getR fa_Rod_91 sk_0 rfl d_Rod_rule_48 ?_
    refine N_getK fa_Rod_95 sk_1 rfl d_Rod_rule_51 wK ?_
    exact V_iret rfl d_Rod_rule_54 ⟨w, rfl, ⟨rfl, (ru_0 (by omega) rfl)⟩⟩
  ·
    refine V_tabIn 55 aE d_Rod_rule_1 (by omega) (by omega) (by rw [c4]; rfl) (by decide) ?_
    refine V_aload_n 0 d_Rod_rule_55 rfl rfl ?_
    refine V_getR fa_Rod_12 sk_85 rfl d_Rod_rule_56 ?_
    refine V_getR fa_Rod_91 sk_0 rfl d_Rod_rule_59 ?_
    refine N_getK fa_Rod_100 sk_1 rfl d_Rod_rule_62 gK ?_
    exact V_iret rfl d_Rod_rule_65 ⟨g, rfl, ⟨rfl, (ru_1 (by omega) rfl)⟩⟩
  ·
    refine V_tabIn 66 aE d_Rod_rule_1 (by omega) (by omega) (by rw [c4]; rfl) (by decide) ?_
    refine V_aload_n 0 d_Rod_rule_66 rfl rfl ?_
    refine V_getR fa_Rod_12 sk_85 rfl d_Rod_rule_67 ?_
    refine V_getR fa_Rod_91 sk_0 rfl d_Rod_rule_70 ?_
    refine N_getK fa_Rod_103 sk_1 rfl d_Rod_rule_73 xK ?_
    exact V_iret rfl d_Rod_rule_76 ⟨x, rfl, ⟨rfl, (ru_2 (by omega) rfl)⟩⟩
  ·
    refine V_tabIn 77 aE d_Rod_rule_1 (by omega) (by omega) (by rw [c4]; rfl) (by decide) ?_
    refine V_aload_n 0 d_Rod_rule_77 rfl rfl ?_
    refine V_getR fa_Rod_12 sk_85 rfl d_Rod_rule_78 ?_
    refine V_getR fa_Rod_91 sk_0 rfl d_Rod_rule_81 ?_
    refine N_getK fa_Rod_106 sk_1 rfl d_Rod_rule_84 yK ?_
    exact V_iret rfl d_Rod_rule_87 ⟨y, rfl, ⟨rfl, (ru_3 (by omega) rfl)⟩⟩
  ·
    refine V_tabIn 88 aE d_Rod_rule_1 (by omega) (by omega) (by rw [c4]; rfl) (by decide) ?_
    refine V_aload_n 0 d_Rod_rule_88 rfl rfl ?_
    refine V_getR fa_Rod_12 sk_85 rfl d_Rod_rule_89 ?_
    refine N_getK fa_Rod_109 sk_0 rfl d_Rod_rule_92 nK ?_
    exact V_iret rfl d_Rod_rule_95 ⟨n, rfl, ⟨rfl, (ru_4 (by omega) rfl)⟩⟩
  ·
    refine V_tabIn 96 aE d_Rod_rule_1 (by omega) (by omega) (by rw [c4]; rfl) (by decide) ?_
    refine V_aload_n 0 d_Rod_rule_96 rfl rfl ?_
    refine V_getR fa_Rod_12 sk_85 rfl d_Rod_rule_97 ?_
    refine N_getK fa_Rod_112 sk_0 rfl d_Rod_rule_100 mK ?_
    exact V_iret rfl d_Rod_rule_103 ⟨m, rfl, ⟨rfl, (ru_5 (by omega) rfl)⟩⟩
  ·
    refine V_tabIn 104 aE d_Rod_rule_1 (by omega) (by omega) (by rw [c4]; rfl) (by decide) ?_
    refine V_aload_n 0 d_Rod_rule_104 rfl rfl ?_
    refine V_getR fa_Rod_12 sk_85 rfl d_Rod_rule_105 ?_
    refine V_getR fa_Rod_115 sk_0 rfl d_Rod_rule_108 ?_
    refine N_getK fa_Rod_119 sk_7 rfl d_Rod_rule_111 tK ?_
    exact V_iret rfl d_Rod_rule_114 ⟨t, rfl, ⟨rfl, (ru_6 (by omega) rfl)⟩⟩
abbrev q_Mod_ruleX (h : Hp) (a : Int32) (aZ : Int) (w : Int32) (wZ : Int) (g : Int32) (gZ : Int) (x : Int32) (xZ : Int) (y : Int32) (yZ : Int) (n : Int32) (nZ : Int) (m : Int32) (mZ : Int) (t : Int32) (tZ : Int) : Option Value → Hp → Prop := pInt (fun r h' => h = h' ∧ (ru aZ r w g x y n m t))
set_option maxRecDepth 100000 in
theorem c_Mod_ruleX (h : Hp) (hI : Inv h) (a : Int32) (aZ : Int) (aE : a.toInt = aZ) (w : Int32) (wZ : Int) (wE : w.toInt = wZ) (wK : h.1 116 2 = w) (g : Int32) (gZ : Int) (gE : g.toInt = gZ) (gK : h.1 116 3 = g) (x : Int32) (xZ : Int) (xE : x.toInt = xZ) (xK : h.1 116 4 = x) (y : Int32) (yZ : Int) (yE : y.toInt = yZ) (yK : h.1 116 5 = y) (n : Int32) (nZ : Int) (nE : n.toInt = nZ) (nK : h.1 117 84 = n) (m : Int32) (mZ : Int) (mE : m.toInt = mZ) (mK : h.1 117 85 = m) (t : Int32) (tZ : Int) (tE : t.toInt = tZ) (tK : h.1 117 86 = t) : Ct y_Mod_rule b_Mod_rule 2 (some .int) 0 0 [.ref 116, .int a] h (q_Mod_ruleX h a aZ w wZ g gZ x xZ y yZ n nZ m mZ t tZ) := by
  refine ct_ow R_Mod [some (.ref 116), some (.int a)] rfl (by decide) rfl (Nat.le_of_ble_eq_true rfl) ?_
  have f0 : fr [] h h := fr_rf
  have g1 : 2 ≤ wZ ∧ wZ ≤ 4 := inv_at hI wE wK.symm rfl
  have g2 : 2 ≤ gZ ∧ gZ ≤ 4 := inv_at hI gE gK.symm rfl
  refine V_iload_n 1 d_Mod_rule_0 rfl rfl ?_
  rcases (by omega : (aZ < 0 ∨ 6 < aZ) ∨ aZ = 0 ∨ aZ = 1 ∨ aZ = 2 ∨ aZ = 3 ∨ aZ = 4 ∨ aZ = 5 ∨ aZ = 6) with c3 | c3 | c3 | c3 | c3 | c3 | c3 | c3
  ·
    refine V_tabOut 88 aE d_Mod_rule_1 c3 (by decide) ?_
    refine V_iconst (-1) d_Mod_rule_88 (by decide) ?_
    exact V_iret rfl d_Mod_rule_89 ⟨(-1), rfl, ⟨rfl, (ru_n (by omega) tc_m1)⟩⟩
  ·
    refine V_tabIn 44 aE d_Mod_rule_1 (by omega) (by omega) (by rw [c3]; rfl) (by decide) ?_
    refine V_aload_n 0 d_Mod_rule_44 rfl rfl ?_
    refine N_getK fa_Mod_81 sk_116 rfl d_Mod_rule_45 wK ?_
    exact V_iret rfl d_Mod_rule_48 ⟨w, rfl, ⟨rfl, (ru_0 (by omega) rfl)⟩⟩
  ·
    refine V_tabIn 49 aE d_Mod_rule_1 (by omega) (by omega) (by rw [c3]; rfl) (by decide) ?_
    refine V_aload_n 0 d_Mod_rule_49 rfl rfl ?_
    refine N_getK fa_Mod_84 sk_116 rfl d_Mod_rule_50 gK ?_
    exact V_iret rfl d_Mod_rule_53 ⟨g, rfl, ⟨rfl, (ru_1 (by omega) rfl)⟩⟩
  ·
    refine V_tabIn 54 aE d_Mod_rule_1 (by omega) (by omega) (by rw [c3]; rfl) (by decide) ?_
    refine V_aload_n 0 d_Mod_rule_54 rfl rfl ?_
    refine N_getK fa_Mod_87 sk_116 rfl d_Mod_rule_55 xK ?_
    exact V_iret rfl d_Mod_rule_58 ⟨x, rfl, ⟨rfl, (ru_2 (by omega) rfl)⟩⟩
  ·
    refine V_tabIn 59 aE d_Mod_rule_1 (by omega) (by omega) (by rw [c3]; rfl) (by decide) ?_
    refine V_aload_n 0 d_Mod_rule_59 rfl rfl ?_
    refine N_getK fa_Mod_90 sk_116 rfl d_Mod_rule_60 yK ?_
    exact V_iret rfl d_Mod_rule_63 ⟨y, rfl, ⟨rfl, (ru_3 (by omega) rfl)⟩⟩
  ·
    refine V_tabIn 64 aE d_Mod_rule_1 (by omega) (by omega) (by rw [c3]; rfl) (by decide) ?_
    refine V_aload_n 0 d_Mod_rule_64 rfl rfl ?_
    refine V_getR fa_Mod_7 sk_116 rfl d_Mod_rule_65 ?_
    refine V_bipush 84 d_Mod_rule_68 (by decide) ?_
    refine N_ialdK sk_117 tc_84 (by omega) d_Mod_rule_70 nK ?_
    exact V_iret rfl d_Mod_rule_71 ⟨n, rfl, ⟨rfl, (ru_4 (by omega) rfl)⟩⟩
  ·
    refine V_tabIn 72 aE d_Mod_rule_1 (by omega) (by omega) (by rw [c3]; rfl) (by decide) ?_
    refine V_aload_n 0 d_Mod_rule_72 rfl rfl ?_
    refine V_getR fa_Mod_7 sk_116 rfl d_Mod_rule_73 ?_
    refine V_bipush 85 d_Mod_rule_76 (by decide) ?_
    refine N_ialdK sk_117 tc_85 (by omega) d_Mod_rule_78 mK ?_
    exact V_iret rfl d_Mod_rule_79 ⟨m, rfl, ⟨rfl, (ru_5 (by omega) rfl)⟩⟩
  ·
    refine V_tabIn 80 aE d_Mod_rule_1 (by omega) (by omega) (by rw [c3]; rfl) (by decide) ?_
    refine V_aload_n 0 d_Mod_rule_80 rfl rfl ?_
    refine V_getR fa_Mod_7 sk_116 rfl d_Mod_rule_81 ?_
    refine V_bipush 86 d_Mod_rule_84 (by decide) ?_
    refine N_ialdK sk_117 tc_86 (by omega) d_Mod_rule_86 tK ?_
    exact V_iret rfl d_Mod_rule_87 ⟨t, rfl, ⟨rfl, (ru_6 (by omega) rfl)⟩⟩
end
section
theorem JA_row3 {h h1 h2 : Hp} {k : Nat} {c oZ : Int} {G : Prop} {V1 V2 : Int32 → Prop} {r1 r2 : Int32} (hI : Inv h) (r : JA h) (f1 : Er h h1 k c.toNat G V1 r1) (f2 : Er h1 h2 117 (oZ + c).toNat G V2 r2) (hk : k = 3 ∧ oZ = 16 ∨ k = 4 ∧ oZ = 32 ∨ k = 5 ∧ oZ = 48) (hc : G → 0 ≤ c ∧ c < (h.1 1 0).toInt * (h.1 1 1).toInt) (hV : ∀ x y : Int32, V1 x → V2 y → x = y) : JA h2 ∧ r1 = r2 := by
  have a : 2 ≤ (h.1 1 0).toInt ∧ (h.1 1 0).toInt ≤ 4 := hI 1 0
  have b : 2 ≤ (h.1 1 1).toInt ∧ (h.1 1 1).toInt ≤ 4 := hI 1 1
  have m := mul24 a b
  refine JA_row r f1 f2 Iff.rfl hV (fun g => ?_)
  have q := hc g
  have hlt : c < 16 := by omega
  rcases hk with ⟨rfl, rfl⟩ | ⟨rfl, rfl⟩ | ⟨rfl, rfl⟩
  · have e := dof_row (k := 71) (i := c.toNat) (n := 16) (o := 16) (A := c) (by omega) (by omega) rfl
    rw [show (16 + c).toNat = 16 + c.toNat by omega]
    exact ⟨e, by omega, by unfold aP; omega⟩
  · have e := dof_row (k := 72) (i := c.toNat) (n := 16) (o := 32) (A := c) (by omega) (by omega) rfl
    rw [show (32 + c).toNat = 32 + c.toNat by omega]
    exact ⟨e, by omega, by unfold aP; omega⟩
  · have e := dof_row (k := 73) (i := c.toNat) (n := 16) (o := 48) (A := c) (by omega) (by omega) rfl
    rw [show (48 + c).toNat = 48 + c.toNat by omega]
    exact ⟨e, by omega, by unfold aP; omega⟩
theorem V_flag {x y : Int32} {z : Int} (p : z ≠ 0 ∧ x.toInt = 1 ∨ z = 0 ∧ x.toInt = 0) (q : z ≠ 0 ∧ y.toInt = 1 ∨ z = 0 ∧ y.toInt = 0) : x = y := by
  rcases p with ⟨a1, b1⟩ | ⟨a1, b1⟩ <;> rcases q with ⟨a2, b2⟩ | ⟨a2, b2⟩
  · exact same_of b1 b2
  · exact absurd a2 a1
  · exact absurd a1 a2
  · exact same_of b1 b2
theorem JA_c86 {h : Hp} (r : JA h) : h.1 7 4 = h.1 117 86 := JA_cell r (k := 7) (i := 4) rfl (Or.inr (by decide)) (by decide)
theorem JA_c111 {h : Hp} (r : JA h) : h.1 12 4 = h.1 117 111 := JA_cell r (k := 12) (i := 4) rfl (Or.inr (by decide)) (by decide)
end
section
theorem dl_18 : decode code 18 = .ok (.iload_n 3, 1) := dc_29 (by decide +kernel)
theorem dl_19 : decode code 19 = .ok (.aload_n 0, 1) := dc_42 (by decide +kernel)
theorem dl_20 : decode code 20 = .ok (.arraylength, 1) := dc_190 (by decide +kernel)
theorem dl_21 : decode code 21 = .ok (.iconst 5, 1) := dc_8 (by decide +kernel)
theorem dl_22 : decode code 22 = .ok (.isub, 1) := dc_100 (by decide +kernel)
theorem dl_23 : decode code 23 = .ok (.if_icmp .gt 1342, 3) := dc_163 (a := 5) (b := 62) (by decide +kernel) rfl
theorem dl_26 : decode code 26 = .ok (.aload_n 0, 1) := dc_42 (by decide +kernel)
theorem dl_27 : decode code 27 = .ok (.iload_n 3, 1) := dc_29 (by decide +kernel)
theorem dl_28 : decode code 28 = .ok (.iaload, 1) := dc_46 (by decide +kernel)
theorem dl_29 : decode code 29 = .ok (.bipush 63, 2) := dc_16 (a := 63) (by decide +kernel) rfl
theorem dl_31 : decode code 31 = .ok (.iand, 1) := dc_126 (by decide +kernel)
theorem dl_32 : decode code 32 = .ok (.tableswitch 1327 0 36 #[164, 187, 210, 223, 236, 259, 292, 315, 348, 397, 430, 463, 496, 529, 572, 595, 618, 661, 730, 753, 766, 789, 822, 875, 918, 971, 994, 1027, 1050, 1073, 1106, 1129, 1152, 1195, 1238, 1291, 1304], 164) := by decide +kernel
theorem dl_196 : decode code 196 = .ok (.aload_n 1, 1) := dc_43 (by decide +kernel)
theorem dl_197 : decode code 197 = .ok (.aload_n 0, 1) := dc_42 (by decide +kernel)
theorem dl_198 : decode code 198 = .ok (.iload_n 3, 1) := dc_29 (by decide +kernel)
theorem dl_199 : decode code 199 = .ok (.iconst 1, 1) := dc_4 (by decide +kernel)
theorem dl_200 : decode code 200 = .ok (.iadd, 1) := dc_96 (by decide +kernel)
theorem dl_201 : decode code 201 = .ok (.iaload, 1) := dc_46 (by decide +kernel)
theorem dl_202 : decode code 202 = .ok (.invokevirtual 13, 3) := dc_182 (a := 0) (b := 13) (by decide +kernel) rfl
theorem dl_205 : decode code 205 = .ok (.pop, 1) := dc_87 (by decide +kernel)
theorem dl_206 : decode code 206 = .ok (.aload_n 2, 1) := dc_44 (by decide +kernel)
theorem dl_207 : decode code 207 = .ok (.aload_n 0, 1) := dc_42 (by decide +kernel)
theorem dl_208 : decode code 208 = .ok (.iload_n 3, 1) := dc_29 (by decide +kernel)
theorem dl_209 : decode code 209 = .ok (.iconst 1, 1) := dc_4 (by decide +kernel)
theorem dl_210 : decode code 210 = .ok (.iadd, 1) := dc_96 (by decide +kernel)
theorem dl_211 : decode code 211 = .ok (.iaload, 1) := dc_46 (by decide +kernel)
theorem dl_212 : decode code 212 = .ok (.invokevirtual 17, 3) := dc_182 (a := 0) (b := 17) (by decide +kernel) rfl
theorem dl_215 : decode code 215 = .ok (.pop, 1) := dc_87 (by decide +kernel)
theorem dl_216 : decode code 216 = .ok (.goto 1143, 3) := dc_167 (a := 4) (b := 119) (by decide +kernel) rfl
theorem dl_219 : decode code 219 = .ok (.aload_n 1, 1) := dc_43 (by decide +kernel)
theorem dl_220 : decode code 220 = .ok (.aload_n 0, 1) := dc_42 (by decide +kernel)
theorem dl_221 : decode code 221 = .ok (.iload_n 3, 1) := dc_29 (by decide +kernel)
theorem dl_222 : decode code 222 = .ok (.iconst 1, 1) := dc_4 (by decide +kernel)
theorem dl_223 : decode code 223 = .ok (.iadd, 1) := dc_96 (by decide +kernel)
theorem dl_224 : decode code 224 = .ok (.iaload, 1) := dc_46 (by decide +kernel)
theorem dl_225 : decode code 225 = .ok (.invokevirtual 18, 3) := dc_182 (a := 0) (b := 18) (by decide +kernel) rfl
theorem dl_228 : decode code 228 = .ok (.pop, 1) := dc_87 (by decide +kernel)
theorem dl_229 : decode code 229 = .ok (.aload_n 2, 1) := dc_44 (by decide +kernel)
theorem dl_230 : decode code 230 = .ok (.aload_n 0, 1) := dc_42 (by decide +kernel)
theorem dl_231 : decode code 231 = .ok (.iload_n 3, 1) := dc_29 (by decide +kernel)
theorem dl_232 : decode code 232 = .ok (.iconst 1, 1) := dc_4 (by decide +kernel)
theorem dl_233 : decode code 233 = .ok (.iadd, 1) := dc_96 (by decide +kernel)
theorem dl_234 : decode code 234 = .ok (.iaload, 1) := dc_46 (by decide +kernel)
theorem dl_235 : decode code 235 = .ok (.invokevirtual 21, 3) := dc_182 (a := 0) (b := 21) (by decide +kernel) rfl
theorem dl_238 : decode code 238 = .ok (.pop, 1) := dc_87 (by decide +kernel)
theorem dl_239 : decode code 239 = .ok (.goto 1120, 3) := dc_167 (a := 4) (b := 96) (by decide +kernel) rfl
theorem dl_242 : decode code 242 = .ok (.aload_n 1, 1) := dc_43 (by decide +kernel)
theorem dl_243 : decode code 243 = .ok (.invokevirtual 22, 3) := dc_182 (a := 0) (b := 22) (by decide +kernel) rfl
theorem dl_246 : decode code 246 = .ok (.pop, 1) := dc_87 (by decide +kernel)
theorem dl_247 : decode code 247 = .ok (.aload_n 2, 1) := dc_44 (by decide +kernel)
theorem dl_248 : decode code 248 = .ok (.invokevirtual 26, 3) := dc_182 (a := 0) (b := 26) (by decide +kernel) rfl
theorem dl_251 : decode code 251 = .ok (.pop, 1) := dc_87 (by decide +kernel)
theorem dl_252 : decode code 252 = .ok (.goto 1107, 3) := dc_167 (a := 4) (b := 83) (by decide +kernel) rfl
theorem dl_255 : decode code 255 = .ok (.aload_n 1, 1) := dc_43 (by decide +kernel)
theorem dl_256 : decode code 256 = .ok (.invokevirtual 27, 3) := dc_182 (a := 0) (b := 27) (by decide +kernel) rfl
theorem dl_259 : decode code 259 = .ok (.pop, 1) := dc_87 (by decide +kernel)
theorem dl_260 : decode code 260 = .ok (.aload_n 2, 1) := dc_44 (by decide +kernel)
theorem dl_261 : decode code 261 = .ok (.invokevirtual 30, 3) := dc_182 (a := 0) (b := 30) (by decide +kernel) rfl
theorem dl_264 : decode code 264 = .ok (.pop, 1) := dc_87 (by decide +kernel)
theorem dl_265 : decode code 265 = .ok (.goto 1094, 3) := dc_167 (a := 4) (b := 70) (by decide +kernel) rfl
theorem dl_268 : decode code 268 = .ok (.aload_n 1, 1) := dc_43 (by decide +kernel)
theorem dl_269 : decode code 269 = .ok (.aload_n 0, 1) := dc_42 (by decide +kernel)
theorem dl_270 : decode code 270 = .ok (.iload_n 3, 1) := dc_29 (by decide +kernel)
theorem dl_271 : decode code 271 = .ok (.iconst 1, 1) := dc_4 (by decide +kernel)
theorem dl_272 : decode code 272 = .ok (.iadd, 1) := dc_96 (by decide +kernel)
theorem dl_273 : decode code 273 = .ok (.iaload, 1) := dc_46 (by decide +kernel)
theorem dl_274 : decode code 274 = .ok (.invokevirtual 31, 3) := dc_182 (a := 0) (b := 31) (by decide +kernel) rfl
theorem dl_277 : decode code 277 = .ok (.pop, 1) := dc_87 (by decide +kernel)
theorem dl_278 : decode code 278 = .ok (.aload_n 2, 1) := dc_44 (by decide +kernel)
theorem dl_279 : decode code 279 = .ok (.aload_n 0, 1) := dc_42 (by decide +kernel)
theorem dl_280 : decode code 280 = .ok (.iload_n 3, 1) := dc_29 (by decide +kernel)
theorem dl_281 : decode code 281 = .ok (.iconst 1, 1) := dc_4 (by decide +kernel)
theorem dl_282 : decode code 282 = .ok (.iadd, 1) := dc_96 (by decide +kernel)
theorem dl_283 : decode code 283 = .ok (.iaload, 1) := dc_46 (by decide +kernel)
theorem dl_284 : decode code 284 = .ok (.invokevirtual 34, 3) := dc_182 (a := 0) (b := 34) (by decide +kernel) rfl
theorem dl_287 : decode code 287 = .ok (.pop, 1) := dc_87 (by decide +kernel)
theorem dl_288 : decode code 288 = .ok (.goto 1071, 3) := dc_167 (a := 4) (b := 47) (by decide +kernel) rfl
theorem dl_291 : decode code 291 = .ok (.aload_n 1, 1) := dc_43 (by decide +kernel)
theorem dl_292 : decode code 292 = .ok (.aload_n 0, 1) := dc_42 (by decide +kernel)
theorem dl_293 : decode code 293 = .ok (.iload_n 3, 1) := dc_29 (by decide +kernel)
theorem dl_294 : decode code 294 = .ok (.iconst 1, 1) := dc_4 (by decide +kernel)
theorem dl_295 : decode code 295 = .ok (.iadd, 1) := dc_96 (by decide +kernel)
theorem dl_296 : decode code 296 = .ok (.iaload, 1) := dc_46 (by decide +kernel)
theorem dl_297 : decode code 297 = .ok (.aload_n 0, 1) := dc_42 (by decide +kernel)
theorem dl_298 : decode code 298 = .ok (.iload_n 3, 1) := dc_29 (by decide +kernel)
theorem dl_299 : decode code 299 = .ok (.iconst 2, 1) := dc_5 (by decide +kernel)
theorem dl_300 : decode code 300 = .ok (.iadd, 1) := dc_96 (by decide +kernel)
theorem dl_301 : decode code 301 = .ok (.iaload, 1) := dc_46 (by decide +kernel)
theorem dl_302 : decode code 302 = .ok (.invokevirtual 35, 3) := dc_182 (a := 0) (b := 35) (by decide +kernel) rfl
theorem dl_305 : decode code 305 = .ok (.pop, 1) := dc_87 (by decide +kernel)
theorem dl_306 : decode code 306 = .ok (.aload_n 2, 1) := dc_44 (by decide +kernel)
theorem dl_307 : decode code 307 = .ok (.aload_n 0, 1) := dc_42 (by decide +kernel)
theorem dl_308 : decode code 308 = .ok (.iload_n 3, 1) := dc_29 (by decide +kernel)
theorem dl_309 : decode code 309 = .ok (.iconst 1, 1) := dc_4 (by decide +kernel)
theorem dl_310 : decode code 310 = .ok (.iadd, 1) := dc_96 (by decide +kernel)
theorem dl_311 : decode code 311 = .ok (.iaload, 1) := dc_46 (by decide +kernel)
theorem dl_312 : decode code 312 = .ok (.aload_n 0, 1) := dc_42 (by decide +kernel)
theorem dl_313 : decode code 313 = .ok (.iload_n 3, 1) := dc_29 (by decide +kernel)
theorem dl_314 : decode code 314 = .ok (.iconst 2, 1) := dc_5 (by decide +kernel)
theorem dl_315 : decode code 315 = .ok (.iadd, 1) := dc_96 (by decide +kernel)
theorem dl_316 : decode code 316 = .ok (.iaload, 1) := dc_46 (by decide +kernel)
theorem dl_317 : decode code 317 = .ok (.invokevirtual 39, 3) := dc_182 (a := 0) (b := 39) (by decide +kernel) rfl
theorem dl_320 : decode code 320 = .ok (.pop, 1) := dc_87 (by decide +kernel)
theorem dl_321 : decode code 321 = .ok (.goto 1038, 3) := dc_167 (a := 4) (b := 14) (by decide +kernel) rfl
theorem dl_324 : decode code 324 = .ok (.aload_n 1, 1) := dc_43 (by decide +kernel)
theorem dl_325 : decode code 325 = .ok (.aload_n 0, 1) := dc_42 (by decide +kernel)
theorem dl_326 : decode code 326 = .ok (.iload_n 3, 1) := dc_29 (by decide +kernel)
theorem dl_327 : decode code 327 = .ok (.iconst 1, 1) := dc_4 (by decide +kernel)
theorem dl_328 : decode code 328 = .ok (.iadd, 1) := dc_96 (by decide +kernel)
theorem dl_329 : decode code 329 = .ok (.iaload, 1) := dc_46 (by decide +kernel)
theorem dl_330 : decode code 330 = .ok (.invokevirtual 40, 3) := dc_182 (a := 0) (b := 40) (by decide +kernel) rfl
theorem dl_333 : decode code 333 = .ok (.pop, 1) := dc_87 (by decide +kernel)
theorem dl_334 : decode code 334 = .ok (.aload_n 2, 1) := dc_44 (by decide +kernel)
theorem dl_335 : decode code 335 = .ok (.aload_n 0, 1) := dc_42 (by decide +kernel)
theorem dl_336 : decode code 336 = .ok (.iload_n 3, 1) := dc_29 (by decide +kernel)
theorem dl_337 : decode code 337 = .ok (.iconst 1, 1) := dc_4 (by decide +kernel)
theorem dl_338 : decode code 338 = .ok (.iadd, 1) := dc_96 (by decide +kernel)
theorem dl_339 : decode code 339 = .ok (.iaload, 1) := dc_46 (by decide +kernel)
theorem dl_340 : decode code 340 = .ok (.invokevirtual 43, 3) := dc_182 (a := 0) (b := 43) (by decide +kernel) rfl
theorem dl_343 : decode code 343 = .ok (.pop, 1) := dc_87 (by decide +kernel)
theorem dl_344 : decode code 344 = .ok (.goto 1015, 3) := dc_167 (a := 3) (b := 247) (by decide +kernel) rfl
theorem dl_347 : decode code 347 = .ok (.aload_n 1, 1) := dc_43 (by decide +kernel)
theorem dl_348 : decode code 348 = .ok (.aload_n 0, 1) := dc_42 (by decide +kernel)
theorem dl_349 : decode code 349 = .ok (.iload_n 3, 1) := dc_29 (by decide +kernel)
theorem dl_350 : decode code 350 = .ok (.iconst 1, 1) := dc_4 (by decide +kernel)
theorem dl_351 : decode code 351 = .ok (.iadd, 1) := dc_96 (by decide +kernel)
theorem dl_352 : decode code 352 = .ok (.iaload, 1) := dc_46 (by decide +kernel)
theorem dl_353 : decode code 353 = .ok (.aload_n 0, 1) := dc_42 (by decide +kernel)
theorem dl_354 : decode code 354 = .ok (.iload_n 3, 1) := dc_29 (by decide +kernel)
theorem dl_355 : decode code 355 = .ok (.iconst 2, 1) := dc_5 (by decide +kernel)
theorem dl_356 : decode code 356 = .ok (.iadd, 1) := dc_96 (by decide +kernel)
theorem dl_357 : decode code 357 = .ok (.iaload, 1) := dc_46 (by decide +kernel)
theorem dl_358 : decode code 358 = .ok (.invokevirtual 44, 3) := dc_182 (a := 0) (b := 44) (by decide +kernel) rfl
theorem dl_361 : decode code 361 = .ok (.pop, 1) := dc_87 (by decide +kernel)
theorem dl_362 : decode code 362 = .ok (.aload_n 2, 1) := dc_44 (by decide +kernel)
theorem dl_363 : decode code 363 = .ok (.aload_n 0, 1) := dc_42 (by decide +kernel)
theorem dl_364 : decode code 364 = .ok (.iload_n 3, 1) := dc_29 (by decide +kernel)
theorem dl_365 : decode code 365 = .ok (.iconst 1, 1) := dc_4 (by decide +kernel)
theorem dl_366 : decode code 366 = .ok (.iadd, 1) := dc_96 (by decide +kernel)
theorem dl_367 : decode code 367 = .ok (.iaload, 1) := dc_46 (by decide +kernel)
theorem dl_368 : decode code 368 = .ok (.aload_n 0, 1) := dc_42 (by decide +kernel)
theorem dl_369 : decode code 369 = .ok (.iload_n 3, 1) := dc_29 (by decide +kernel)
theorem dl_370 : decode code 370 = .ok (.iconst 2, 1) := dc_5 (by decide +kernel)
theorem dl_371 : decode code 371 = .ok (.iadd, 1) := dc_96 (by decide +kernel)
theorem dl_372 : decode code 372 = .ok (.iaload, 1) := dc_46 (by decide +kernel)
theorem dl_373 : decode code 373 = .ok (.invokevirtual 47, 3) := dc_182 (a := 0) (b := 47) (by decide +kernel) rfl
theorem dl_376 : decode code 376 = .ok (.pop, 1) := dc_87 (by decide +kernel)
theorem dl_377 : decode code 377 = .ok (.goto 982, 3) := dc_167 (a := 3) (b := 214) (by decide +kernel) rfl
theorem dl_380 : decode code 380 = .ok (.aload_n 1, 1) := dc_43 (by decide +kernel)
theorem dl_381 : decode code 381 = .ok (.aload_n 0, 1) := dc_42 (by decide +kernel)
theorem dl_382 : decode code 382 = .ok (.iload_n 3, 1) := dc_29 (by decide +kernel)
theorem dl_383 : decode code 383 = .ok (.iconst 1, 1) := dc_4 (by decide +kernel)
theorem dl_384 : decode code 384 = .ok (.iadd, 1) := dc_96 (by decide +kernel)
theorem dl_385 : decode code 385 = .ok (.iaload, 1) := dc_46 (by decide +kernel)
theorem dl_386 : decode code 386 = .ok (.aload_n 0, 1) := dc_42 (by decide +kernel)
theorem dl_387 : decode code 387 = .ok (.iload_n 3, 1) := dc_29 (by decide +kernel)
theorem dl_388 : decode code 388 = .ok (.iconst 2, 1) := dc_5 (by decide +kernel)
theorem dl_389 : decode code 389 = .ok (.iadd, 1) := dc_96 (by decide +kernel)
theorem dl_390 : decode code 390 = .ok (.iaload, 1) := dc_46 (by decide +kernel)
theorem dl_391 : decode code 391 = .ok (.ifCond .eq 7, 3) := dc_153 (a := 0) (b := 7) (by decide +kernel) rfl
theorem dl_394 : decode code 394 = .ok (.iconst 1, 1) := dc_4 (by decide +kernel)
theorem dl_395 : decode code 395 = .ok (.goto 4, 3) := dc_167 (a := 0) (b := 4) (by decide +kernel) rfl
theorem dl_398 : decode code 398 = .ok (.iconst 0, 1) := dc_3 (by decide +kernel)
theorem dl_399 : decode code 399 = .ok (.invokevirtual 48, 3) := dc_182 (a := 0) (b := 48) (by decide +kernel) rfl
theorem dl_402 : decode code 402 = .ok (.pop, 1) := dc_87 (by decide +kernel)
theorem dl_403 : decode code 403 = .ok (.aload_n 2, 1) := dc_44 (by decide +kernel)
theorem dl_404 : decode code 404 = .ok (.aload_n 0, 1) := dc_42 (by decide +kernel)
theorem dl_405 : decode code 405 = .ok (.iload_n 3, 1) := dc_29 (by decide +kernel)
theorem dl_406 : decode code 406 = .ok (.iconst 1, 1) := dc_4 (by decide +kernel)
theorem dl_407 : decode code 407 = .ok (.iadd, 1) := dc_96 (by decide +kernel)
theorem dl_408 : decode code 408 = .ok (.iaload, 1) := dc_46 (by decide +kernel)
theorem dl_409 : decode code 409 = .ok (.aload_n 0, 1) := dc_42 (by decide +kernel)
theorem dl_410 : decode code 410 = .ok (.iload_n 3, 1) := dc_29 (by decide +kernel)
theorem dl_411 : decode code 411 = .ok (.iconst 2, 1) := dc_5 (by decide +kernel)
theorem dl_412 : decode code 412 = .ok (.iadd, 1) := dc_96 (by decide +kernel)
theorem dl_413 : decode code 413 = .ok (.iaload, 1) := dc_46 (by decide +kernel)
theorem dl_414 : decode code 414 = .ok (.ifCond .eq 7, 3) := dc_153 (a := 0) (b := 7) (by decide +kernel) rfl
theorem dl_417 : decode code 417 = .ok (.iconst 1, 1) := dc_4 (by decide +kernel)
theorem dl_418 : decode code 418 = .ok (.goto 4, 3) := dc_167 (a := 0) (b := 4) (by decide +kernel) rfl
theorem dl_421 : decode code 421 = .ok (.iconst 0, 1) := dc_3 (by decide +kernel)
theorem dl_422 : decode code 422 = .ok (.invokevirtual 52, 3) := dc_182 (a := 0) (b := 52) (by decide +kernel) rfl
theorem dl_425 : decode code 425 = .ok (.pop, 1) := dc_87 (by decide +kernel)
theorem dl_426 : decode code 426 = .ok (.goto 933, 3) := dc_167 (a := 3) (b := 165) (by decide +kernel) rfl
theorem dl_429 : decode code 429 = .ok (.aload_n 1, 1) := dc_43 (by decide +kernel)
theorem dl_430 : decode code 430 = .ok (.aload_n 0, 1) := dc_42 (by decide +kernel)
theorem dl_431 : decode code 431 = .ok (.iload_n 3, 1) := dc_29 (by decide +kernel)
theorem dl_432 : decode code 432 = .ok (.iconst 1, 1) := dc_4 (by decide +kernel)
theorem dl_433 : decode code 433 = .ok (.iadd, 1) := dc_96 (by decide +kernel)
theorem dl_434 : decode code 434 = .ok (.iaload, 1) := dc_46 (by decide +kernel)
theorem dl_435 : decode code 435 = .ok (.aload_n 0, 1) := dc_42 (by decide +kernel)
theorem dl_436 : decode code 436 = .ok (.iload_n 3, 1) := dc_29 (by decide +kernel)
theorem dl_437 : decode code 437 = .ok (.iconst 2, 1) := dc_5 (by decide +kernel)
theorem dl_438 : decode code 438 = .ok (.iadd, 1) := dc_96 (by decide +kernel)
theorem dl_439 : decode code 439 = .ok (.iaload, 1) := dc_46 (by decide +kernel)
theorem dl_440 : decode code 440 = .ok (.invokevirtual 53, 3) := dc_182 (a := 0) (b := 53) (by decide +kernel) rfl
theorem dl_443 : decode code 443 = .ok (.pop, 1) := dc_87 (by decide +kernel)
theorem dl_444 : decode code 444 = .ok (.aload_n 2, 1) := dc_44 (by decide +kernel)
theorem dl_445 : decode code 445 = .ok (.aload_n 0, 1) := dc_42 (by decide +kernel)
theorem dl_446 : decode code 446 = .ok (.iload_n 3, 1) := dc_29 (by decide +kernel)
theorem dl_447 : decode code 447 = .ok (.iconst 1, 1) := dc_4 (by decide +kernel)
theorem dl_448 : decode code 448 = .ok (.iadd, 1) := dc_96 (by decide +kernel)
theorem dl_449 : decode code 449 = .ok (.iaload, 1) := dc_46 (by decide +kernel)
theorem dl_450 : decode code 450 = .ok (.aload_n 0, 1) := dc_42 (by decide +kernel)
theorem dl_451 : decode code 451 = .ok (.iload_n 3, 1) := dc_29 (by decide +kernel)
theorem dl_452 : decode code 452 = .ok (.iconst 2, 1) := dc_5 (by decide +kernel)
theorem dl_453 : decode code 453 = .ok (.iadd, 1) := dc_96 (by decide +kernel)
theorem dl_454 : decode code 454 = .ok (.iaload, 1) := dc_46 (by decide +kernel)
theorem dl_455 : decode code 455 = .ok (.invokevirtual 56, 3) := dc_182 (a := 0) (b := 56) (by decide +kernel) rfl
theorem dl_458 : decode code 458 = .ok (.pop, 1) := dc_87 (by decide +kernel)
theorem dl_459 : decode code 459 = .ok (.goto 900, 3) := dc_167 (a := 3) (b := 132) (by decide +kernel) rfl
theorem dl_462 : decode code 462 = .ok (.aload_n 1, 1) := dc_43 (by decide +kernel)
theorem dl_463 : decode code 463 = .ok (.aload_n 0, 1) := dc_42 (by decide +kernel)
theorem dl_464 : decode code 464 = .ok (.iload_n 3, 1) := dc_29 (by decide +kernel)
theorem dl_465 : decode code 465 = .ok (.iconst 1, 1) := dc_4 (by decide +kernel)
theorem dl_466 : decode code 466 = .ok (.iadd, 1) := dc_96 (by decide +kernel)
theorem dl_467 : decode code 467 = .ok (.iaload, 1) := dc_46 (by decide +kernel)
theorem dl_468 : decode code 468 = .ok (.aload_n 0, 1) := dc_42 (by decide +kernel)
theorem dl_469 : decode code 469 = .ok (.iload_n 3, 1) := dc_29 (by decide +kernel)
theorem dl_470 : decode code 470 = .ok (.iconst 2, 1) := dc_5 (by decide +kernel)
theorem dl_471 : decode code 471 = .ok (.iadd, 1) := dc_96 (by decide +kernel)
theorem dl_472 : decode code 472 = .ok (.iaload, 1) := dc_46 (by decide +kernel)
theorem dl_473 : decode code 473 = .ok (.invokevirtual 57, 3) := dc_182 (a := 0) (b := 57) (by decide +kernel) rfl
theorem dl_476 : decode code 476 = .ok (.aload_n 2, 1) := dc_44 (by decide +kernel)
theorem dl_477 : decode code 477 = .ok (.aload_n 0, 1) := dc_42 (by decide +kernel)
theorem dl_478 : decode code 478 = .ok (.iload_n 3, 1) := dc_29 (by decide +kernel)
theorem dl_479 : decode code 479 = .ok (.iconst 1, 1) := dc_4 (by decide +kernel)
theorem dl_480 : decode code 480 = .ok (.iadd, 1) := dc_96 (by decide +kernel)
theorem dl_481 : decode code 481 = .ok (.iaload, 1) := dc_46 (by decide +kernel)
theorem dl_482 : decode code 482 = .ok (.aload_n 0, 1) := dc_42 (by decide +kernel)
theorem dl_483 : decode code 483 = .ok (.iload_n 3, 1) := dc_29 (by decide +kernel)
theorem dl_484 : decode code 484 = .ok (.iconst 2, 1) := dc_5 (by decide +kernel)
theorem dl_485 : decode code 485 = .ok (.iadd, 1) := dc_96 (by decide +kernel)
theorem dl_486 : decode code 486 = .ok (.iaload, 1) := dc_46 (by decide +kernel)
theorem dl_487 : decode code 487 = .ok (.invokevirtual 60, 3) := dc_182 (a := 0) (b := 60) (by decide +kernel) rfl
theorem dl_490 : decode code 490 = .ok (.if_icmp .eq 869, 3) := dc_159 (a := 3) (b := 101) (by decide +kernel) rfl
theorem dl_495 : decode code 495 = .ok (.aload_n 1, 1) := dc_43 (by decide +kernel)
theorem dl_496 : decode code 496 = .ok (.aload_n 0, 1) := dc_42 (by decide +kernel)
theorem dl_497 : decode code 497 = .ok (.iload_n 3, 1) := dc_29 (by decide +kernel)
theorem dl_498 : decode code 498 = .ok (.iconst 1, 1) := dc_4 (by decide +kernel)
theorem dl_499 : decode code 499 = .ok (.iadd, 1) := dc_96 (by decide +kernel)
theorem dl_500 : decode code 500 = .ok (.iaload, 1) := dc_46 (by decide +kernel)
theorem dl_501 : decode code 501 = .ok (.aload_n 0, 1) := dc_42 (by decide +kernel)
theorem dl_502 : decode code 502 = .ok (.iload_n 3, 1) := dc_29 (by decide +kernel)
theorem dl_503 : decode code 503 = .ok (.iconst 2, 1) := dc_5 (by decide +kernel)
theorem dl_504 : decode code 504 = .ok (.iadd, 1) := dc_96 (by decide +kernel)
theorem dl_505 : decode code 505 = .ok (.iaload, 1) := dc_46 (by decide +kernel)
theorem dl_506 : decode code 506 = .ok (.invokevirtual 61, 3) := dc_182 (a := 0) (b := 61) (by decide +kernel) rfl
theorem dl_509 : decode code 509 = .ok (.pop, 1) := dc_87 (by decide +kernel)
theorem dl_510 : decode code 510 = .ok (.aload_n 2, 1) := dc_44 (by decide +kernel)
theorem dl_511 : decode code 511 = .ok (.aload_n 0, 1) := dc_42 (by decide +kernel)
theorem dl_512 : decode code 512 = .ok (.iload_n 3, 1) := dc_29 (by decide +kernel)
theorem dl_513 : decode code 513 = .ok (.iconst 1, 1) := dc_4 (by decide +kernel)
theorem dl_514 : decode code 514 = .ok (.iadd, 1) := dc_96 (by decide +kernel)
theorem dl_515 : decode code 515 = .ok (.iaload, 1) := dc_46 (by decide +kernel)
theorem dl_516 : decode code 516 = .ok (.aload_n 0, 1) := dc_42 (by decide +kernel)
theorem dl_517 : decode code 517 = .ok (.iload_n 3, 1) := dc_29 (by decide +kernel)
theorem dl_518 : decode code 518 = .ok (.iconst 2, 1) := dc_5 (by decide +kernel)
theorem dl_519 : decode code 519 = .ok (.iadd, 1) := dc_96 (by decide +kernel)
theorem dl_520 : decode code 520 = .ok (.iaload, 1) := dc_46 (by decide +kernel)
theorem dl_521 : decode code 521 = .ok (.invokevirtual 64, 3) := dc_182 (a := 0) (b := 64) (by decide +kernel) rfl
theorem dl_524 : decode code 524 = .ok (.pop, 1) := dc_87 (by decide +kernel)
theorem dl_525 : decode code 525 = .ok (.goto 834, 3) := dc_167 (a := 3) (b := 66) (by decide +kernel) rfl
theorem dl_528 : decode code 528 = .ok (.aload_n 1, 1) := dc_43 (by decide +kernel)
theorem dl_529 : decode code 529 = .ok (.aload_n 0, 1) := dc_42 (by decide +kernel)
theorem dl_530 : decode code 530 = .ok (.iload_n 3, 1) := dc_29 (by decide +kernel)
theorem dl_531 : decode code 531 = .ok (.iconst 1, 1) := dc_4 (by decide +kernel)
theorem dl_532 : decode code 532 = .ok (.iadd, 1) := dc_96 (by decide +kernel)
theorem dl_533 : decode code 533 = .ok (.iaload, 1) := dc_46 (by decide +kernel)
theorem dl_534 : decode code 534 = .ok (.aload_n 0, 1) := dc_42 (by decide +kernel)
theorem dl_535 : decode code 535 = .ok (.iload_n 3, 1) := dc_29 (by decide +kernel)
theorem dl_536 : decode code 536 = .ok (.iconst 2, 1) := dc_5 (by decide +kernel)
theorem dl_537 : decode code 537 = .ok (.iadd, 1) := dc_96 (by decide +kernel)
theorem dl_538 : decode code 538 = .ok (.iaload, 1) := dc_46 (by decide +kernel)
theorem dl_539 : decode code 539 = .ok (.invokevirtual 65, 3) := dc_182 (a := 0) (b := 65) (by decide +kernel) rfl
theorem dl_542 : decode code 542 = .ok (.pop, 1) := dc_87 (by decide +kernel)
theorem dl_543 : decode code 543 = .ok (.aload_n 2, 1) := dc_44 (by decide +kernel)
theorem dl_544 : decode code 544 = .ok (.aload_n 0, 1) := dc_42 (by decide +kernel)
theorem dl_545 : decode code 545 = .ok (.iload_n 3, 1) := dc_29 (by decide +kernel)
theorem dl_546 : decode code 546 = .ok (.iconst 1, 1) := dc_4 (by decide +kernel)
theorem dl_547 : decode code 547 = .ok (.iadd, 1) := dc_96 (by decide +kernel)
theorem dl_548 : decode code 548 = .ok (.iaload, 1) := dc_46 (by decide +kernel)
theorem dl_549 : decode code 549 = .ok (.aload_n 0, 1) := dc_42 (by decide +kernel)
theorem dl_550 : decode code 550 = .ok (.iload_n 3, 1) := dc_29 (by decide +kernel)
theorem dl_551 : decode code 551 = .ok (.iconst 2, 1) := dc_5 (by decide +kernel)
theorem dl_552 : decode code 552 = .ok (.iadd, 1) := dc_96 (by decide +kernel)
theorem dl_553 : decode code 553 = .ok (.iaload, 1) := dc_46 (by decide +kernel)
theorem dl_554 : decode code 554 = .ok (.invokevirtual 68, 3) := dc_182 (a := 0) (b := 68) (by decide +kernel) rfl
theorem dl_557 : decode code 557 = .ok (.pop, 1) := dc_87 (by decide +kernel)
theorem dl_558 : decode code 558 = .ok (.goto 801, 3) := dc_167 (a := 3) (b := 33) (by decide +kernel) rfl
theorem dl_561 : decode code 561 = .ok (.aload_n 1, 1) := dc_43 (by decide +kernel)
theorem dl_562 : decode code 562 = .ok (.aload_n 0, 1) := dc_42 (by decide +kernel)
theorem dl_563 : decode code 563 = .ok (.iload_n 3, 1) := dc_29 (by decide +kernel)
theorem dl_564 : decode code 564 = .ok (.iconst 1, 1) := dc_4 (by decide +kernel)
theorem dl_565 : decode code 565 = .ok (.iadd, 1) := dc_96 (by decide +kernel)
theorem dl_566 : decode code 566 = .ok (.iaload, 1) := dc_46 (by decide +kernel)
theorem dl_567 : decode code 567 = .ok (.aload_n 0, 1) := dc_42 (by decide +kernel)
theorem dl_568 : decode code 568 = .ok (.iload_n 3, 1) := dc_29 (by decide +kernel)
theorem dl_569 : decode code 569 = .ok (.iconst 2, 1) := dc_5 (by decide +kernel)
theorem dl_570 : decode code 570 = .ok (.iadd, 1) := dc_96 (by decide +kernel)
theorem dl_571 : decode code 571 = .ok (.iaload, 1) := dc_46 (by decide +kernel)
theorem dl_572 : decode code 572 = .ok (.aload_n 0, 1) := dc_42 (by decide +kernel)
theorem dl_573 : decode code 573 = .ok (.iload_n 3, 1) := dc_29 (by decide +kernel)
theorem dl_574 : decode code 574 = .ok (.iconst 3, 1) := dc_6 (by decide +kernel)
theorem dl_575 : decode code 575 = .ok (.iadd, 1) := dc_96 (by decide +kernel)
theorem dl_576 : decode code 576 = .ok (.iaload, 1) := dc_46 (by decide +kernel)
theorem dl_577 : decode code 577 = .ok (.invokevirtual 69, 3) := dc_182 (a := 0) (b := 69) (by decide +kernel) rfl
theorem dl_580 : decode code 580 = .ok (.pop, 1) := dc_87 (by decide +kernel)
theorem dl_581 : decode code 581 = .ok (.aload_n 2, 1) := dc_44 (by decide +kernel)
theorem dl_582 : decode code 582 = .ok (.aload_n 0, 1) := dc_42 (by decide +kernel)
theorem dl_583 : decode code 583 = .ok (.iload_n 3, 1) := dc_29 (by decide +kernel)
theorem dl_584 : decode code 584 = .ok (.iconst 1, 1) := dc_4 (by decide +kernel)
theorem dl_585 : decode code 585 = .ok (.iadd, 1) := dc_96 (by decide +kernel)
theorem dl_586 : decode code 586 = .ok (.iaload, 1) := dc_46 (by decide +kernel)
theorem dl_587 : decode code 587 = .ok (.aload_n 0, 1) := dc_42 (by decide +kernel)
theorem dl_588 : decode code 588 = .ok (.iload_n 3, 1) := dc_29 (by decide +kernel)
theorem dl_589 : decode code 589 = .ok (.iconst 2, 1) := dc_5 (by decide +kernel)
theorem dl_590 : decode code 590 = .ok (.iadd, 1) := dc_96 (by decide +kernel)
theorem dl_591 : decode code 591 = .ok (.iaload, 1) := dc_46 (by decide +kernel)
theorem dl_592 : decode code 592 = .ok (.aload_n 0, 1) := dc_42 (by decide +kernel)
theorem dl_593 : decode code 593 = .ok (.iload_n 3, 1) := dc_29 (by decide +kernel)
theorem dl_594 : decode code 594 = .ok (.iconst 3, 1) := dc_6 (by decide +kernel)
theorem dl_595 : decode code 595 = .ok (.iadd, 1) := dc_96 (by decide +kernel)
theorem dl_596 : decode code 596 = .ok (.iaload, 1) := dc_46 (by decide +kernel)
theorem dl_597 : decode code 597 = .ok (.invokevirtual 73, 3) := dc_182 (a := 0) (b := 73) (by decide +kernel) rfl
theorem dl_600 : decode code 600 = .ok (.pop, 1) := dc_87 (by decide +kernel)
theorem dl_601 : decode code 601 = .ok (.goto 758, 3) := dc_167 (a := 2) (b := 246) (by decide +kernel) rfl
theorem dl_604 : decode code 604 = .ok (.aload_n 1, 1) := dc_43 (by decide +kernel)
theorem dl_605 : decode code 605 = .ok (.aload_n 0, 1) := dc_42 (by decide +kernel)
theorem dl_606 : decode code 606 = .ok (.iload_n 3, 1) := dc_29 (by decide +kernel)
theorem dl_607 : decode code 607 = .ok (.iconst 1, 1) := dc_4 (by decide +kernel)
theorem dl_608 : decode code 608 = .ok (.iadd, 1) := dc_96 (by decide +kernel)
theorem dl_609 : decode code 609 = .ok (.iaload, 1) := dc_46 (by decide +kernel)
theorem dl_610 : decode code 610 = .ok (.invokevirtual 74, 3) := dc_182 (a := 0) (b := 74) (by decide +kernel) rfl
theorem dl_613 : decode code 613 = .ok (.pop, 1) := dc_87 (by decide +kernel)
theorem dl_614 : decode code 614 = .ok (.aload_n 2, 1) := dc_44 (by decide +kernel)
theorem dl_615 : decode code 615 = .ok (.aload_n 0, 1) := dc_42 (by decide +kernel)
theorem dl_616 : decode code 616 = .ok (.iload_n 3, 1) := dc_29 (by decide +kernel)
theorem dl_617 : decode code 617 = .ok (.iconst 1, 1) := dc_4 (by decide +kernel)
theorem dl_618 : decode code 618 = .ok (.iadd, 1) := dc_96 (by decide +kernel)
theorem dl_619 : decode code 619 = .ok (.iaload, 1) := dc_46 (by decide +kernel)
theorem dl_620 : decode code 620 = .ok (.invokevirtual 77, 3) := dc_182 (a := 0) (b := 77) (by decide +kernel) rfl
theorem dl_623 : decode code 623 = .ok (.pop, 1) := dc_87 (by decide +kernel)
theorem dl_624 : decode code 624 = .ok (.goto 735, 3) := dc_167 (a := 2) (b := 223) (by decide +kernel) rfl
theorem dl_627 : decode code 627 = .ok (.aload_n 1, 1) := dc_43 (by decide +kernel)
theorem dl_628 : decode code 628 = .ok (.aload_n 0, 1) := dc_42 (by decide +kernel)
theorem dl_629 : decode code 629 = .ok (.iload_n 3, 1) := dc_29 (by decide +kernel)
theorem dl_630 : decode code 630 = .ok (.iconst 1, 1) := dc_4 (by decide +kernel)
theorem dl_631 : decode code 631 = .ok (.iadd, 1) := dc_96 (by decide +kernel)
theorem dl_632 : decode code 632 = .ok (.iaload, 1) := dc_46 (by decide +kernel)
theorem dl_633 : decode code 633 = .ok (.invokevirtual 78, 3) := dc_182 (a := 0) (b := 78) (by decide +kernel) rfl
theorem dl_636 : decode code 636 = .ok (.pop, 1) := dc_87 (by decide +kernel)
theorem dl_637 : decode code 637 = .ok (.aload_n 2, 1) := dc_44 (by decide +kernel)
theorem dl_638 : decode code 638 = .ok (.aload_n 0, 1) := dc_42 (by decide +kernel)
theorem dl_639 : decode code 639 = .ok (.iload_n 3, 1) := dc_29 (by decide +kernel)
theorem dl_640 : decode code 640 = .ok (.iconst 1, 1) := dc_4 (by decide +kernel)
theorem dl_641 : decode code 641 = .ok (.iadd, 1) := dc_96 (by decide +kernel)
theorem dl_642 : decode code 642 = .ok (.iaload, 1) := dc_46 (by decide +kernel)
theorem dl_643 : decode code 643 = .ok (.invokevirtual 81, 3) := dc_182 (a := 0) (b := 81) (by decide +kernel) rfl
theorem dl_646 : decode code 646 = .ok (.pop, 1) := dc_87 (by decide +kernel)
theorem dl_647 : decode code 647 = .ok (.goto 712, 3) := dc_167 (a := 2) (b := 200) (by decide +kernel) rfl
theorem dl_650 : decode code 650 = .ok (.aload_n 1, 1) := dc_43 (by decide +kernel)
theorem dl_651 : decode code 651 = .ok (.aload_n 0, 1) := dc_42 (by decide +kernel)
theorem dl_652 : decode code 652 = .ok (.iload_n 3, 1) := dc_29 (by decide +kernel)
theorem dl_653 : decode code 653 = .ok (.iconst 1, 1) := dc_4 (by decide +kernel)
theorem dl_654 : decode code 654 = .ok (.iadd, 1) := dc_96 (by decide +kernel)
theorem dl_655 : decode code 655 = .ok (.iaload, 1) := dc_46 (by decide +kernel)
theorem dl_656 : decode code 656 = .ok (.aload_n 0, 1) := dc_42 (by decide +kernel)
theorem dl_657 : decode code 657 = .ok (.iload_n 3, 1) := dc_29 (by decide +kernel)
theorem dl_658 : decode code 658 = .ok (.iconst 2, 1) := dc_5 (by decide +kernel)
theorem dl_659 : decode code 659 = .ok (.iadd, 1) := dc_96 (by decide +kernel)
theorem dl_660 : decode code 660 = .ok (.iaload, 1) := dc_46 (by decide +kernel)
theorem dl_661 : decode code 661 = .ok (.aload_n 0, 1) := dc_42 (by decide +kernel)
theorem dl_662 : decode code 662 = .ok (.iload_n 3, 1) := dc_29 (by decide +kernel)
theorem dl_663 : decode code 663 = .ok (.iconst 3, 1) := dc_6 (by decide +kernel)
theorem dl_664 : decode code 664 = .ok (.iadd, 1) := dc_96 (by decide +kernel)
theorem dl_665 : decode code 665 = .ok (.iaload, 1) := dc_46 (by decide +kernel)
theorem dl_666 : decode code 666 = .ok (.invokevirtual 82, 3) := dc_182 (a := 0) (b := 82) (by decide +kernel) rfl
theorem dl_669 : decode code 669 = .ok (.pop, 1) := dc_87 (by decide +kernel)
theorem dl_670 : decode code 670 = .ok (.aload_n 2, 1) := dc_44 (by decide +kernel)
theorem dl_671 : decode code 671 = .ok (.aload_n 0, 1) := dc_42 (by decide +kernel)
theorem dl_672 : decode code 672 = .ok (.iload_n 3, 1) := dc_29 (by decide +kernel)
theorem dl_673 : decode code 673 = .ok (.iconst 1, 1) := dc_4 (by decide +kernel)
theorem dl_674 : decode code 674 = .ok (.iadd, 1) := dc_96 (by decide +kernel)
theorem dl_675 : decode code 675 = .ok (.iaload, 1) := dc_46 (by decide +kernel)
theorem dl_676 : decode code 676 = .ok (.aload_n 0, 1) := dc_42 (by decide +kernel)
theorem dl_677 : decode code 677 = .ok (.iload_n 3, 1) := dc_29 (by decide +kernel)
theorem dl_678 : decode code 678 = .ok (.iconst 2, 1) := dc_5 (by decide +kernel)
theorem dl_679 : decode code 679 = .ok (.iadd, 1) := dc_96 (by decide +kernel)
theorem dl_680 : decode code 680 = .ok (.iaload, 1) := dc_46 (by decide +kernel)
theorem dl_681 : decode code 681 = .ok (.aload_n 0, 1) := dc_42 (by decide +kernel)
theorem dl_682 : decode code 682 = .ok (.iload_n 3, 1) := dc_29 (by decide +kernel)
theorem dl_683 : decode code 683 = .ok (.iconst 3, 1) := dc_6 (by decide +kernel)
theorem dl_684 : decode code 684 = .ok (.iadd, 1) := dc_96 (by decide +kernel)
theorem dl_685 : decode code 685 = .ok (.iaload, 1) := dc_46 (by decide +kernel)
theorem dl_686 : decode code 686 = .ok (.invokevirtual 85, 3) := dc_182 (a := 0) (b := 85) (by decide +kernel) rfl
theorem dl_689 : decode code 689 = .ok (.pop, 1) := dc_87 (by decide +kernel)
theorem dl_690 : decode code 690 = .ok (.goto 669, 3) := dc_167 (a := 2) (b := 157) (by decide +kernel) rfl
theorem dl_693 : decode code 693 = .ok (.aload_n 1, 1) := dc_43 (by decide +kernel)
theorem dl_694 : decode code 694 = .ok (.aload_n 0, 1) := dc_42 (by decide +kernel)
theorem dl_695 : decode code 695 = .ok (.iload_n 3, 1) := dc_29 (by decide +kernel)
theorem dl_696 : decode code 696 = .ok (.iconst 1, 1) := dc_4 (by decide +kernel)
theorem dl_697 : decode code 697 = .ok (.iadd, 1) := dc_96 (by decide +kernel)
theorem dl_698 : decode code 698 = .ok (.iaload, 1) := dc_46 (by decide +kernel)
theorem dl_699 : decode code 699 = .ok (.aload_n 0, 1) := dc_42 (by decide +kernel)
theorem dl_700 : decode code 700 = .ok (.iload_n 3, 1) := dc_29 (by decide +kernel)
theorem dl_701 : decode code 701 = .ok (.iconst 2, 1) := dc_5 (by decide +kernel)
theorem dl_702 : decode code 702 = .ok (.iadd, 1) := dc_96 (by decide +kernel)
theorem dl_703 : decode code 703 = .ok (.iaload, 1) := dc_46 (by decide +kernel)
theorem dl_704 : decode code 704 = .ok (.aload_n 0, 1) := dc_42 (by decide +kernel)
theorem dl_705 : decode code 705 = .ok (.iload_n 3, 1) := dc_29 (by decide +kernel)
theorem dl_706 : decode code 706 = .ok (.iconst 3, 1) := dc_6 (by decide +kernel)
theorem dl_707 : decode code 707 = .ok (.iadd, 1) := dc_96 (by decide +kernel)
theorem dl_708 : decode code 708 = .ok (.iaload, 1) := dc_46 (by decide +kernel)
theorem dl_709 : decode code 709 = .ok (.aload_n 0, 1) := dc_42 (by decide +kernel)
theorem dl_710 : decode code 710 = .ok (.iload_n 3, 1) := dc_29 (by decide +kernel)
theorem dl_711 : decode code 711 = .ok (.iconst 4, 1) := dc_7 (by decide +kernel)
theorem dl_712 : decode code 712 = .ok (.iadd, 1) := dc_96 (by decide +kernel)
theorem dl_713 : decode code 713 = .ok (.iaload, 1) := dc_46 (by decide +kernel)
theorem dl_714 : decode code 714 = .ok (.ifCond .eq 7, 3) := dc_153 (a := 0) (b := 7) (by decide +kernel) rfl
theorem dl_717 : decode code 717 = .ok (.iconst 1, 1) := dc_4 (by decide +kernel)
theorem dl_718 : decode code 718 = .ok (.goto 4, 3) := dc_167 (a := 0) (b := 4) (by decide +kernel) rfl
theorem dl_721 : decode code 721 = .ok (.iconst 0, 1) := dc_3 (by decide +kernel)
theorem dl_722 : decode code 722 = .ok (.invokevirtual 86, 3) := dc_182 (a := 0) (b := 86) (by decide +kernel) rfl
theorem dl_725 : decode code 725 = .ok (.pop, 1) := dc_87 (by decide +kernel)
theorem dl_726 : decode code 726 = .ok (.aload_n 2, 1) := dc_44 (by decide +kernel)
theorem dl_727 : decode code 727 = .ok (.aload_n 0, 1) := dc_42 (by decide +kernel)
theorem dl_728 : decode code 728 = .ok (.iload_n 3, 1) := dc_29 (by decide +kernel)
theorem dl_729 : decode code 729 = .ok (.iconst 1, 1) := dc_4 (by decide +kernel)
theorem dl_730 : decode code 730 = .ok (.iadd, 1) := dc_96 (by decide +kernel)
theorem dl_731 : decode code 731 = .ok (.iaload, 1) := dc_46 (by decide +kernel)
theorem dl_732 : decode code 732 = .ok (.aload_n 0, 1) := dc_42 (by decide +kernel)
theorem dl_733 : decode code 733 = .ok (.iload_n 3, 1) := dc_29 (by decide +kernel)
theorem dl_734 : decode code 734 = .ok (.iconst 2, 1) := dc_5 (by decide +kernel)
theorem dl_735 : decode code 735 = .ok (.iadd, 1) := dc_96 (by decide +kernel)
theorem dl_736 : decode code 736 = .ok (.iaload, 1) := dc_46 (by decide +kernel)
theorem dl_737 : decode code 737 = .ok (.aload_n 0, 1) := dc_42 (by decide +kernel)
theorem dl_738 : decode code 738 = .ok (.iload_n 3, 1) := dc_29 (by decide +kernel)
theorem dl_739 : decode code 739 = .ok (.iconst 3, 1) := dc_6 (by decide +kernel)
theorem dl_740 : decode code 740 = .ok (.iadd, 1) := dc_96 (by decide +kernel)
theorem dl_741 : decode code 741 = .ok (.iaload, 1) := dc_46 (by decide +kernel)
theorem dl_742 : decode code 742 = .ok (.aload_n 0, 1) := dc_42 (by decide +kernel)
theorem dl_743 : decode code 743 = .ok (.iload_n 3, 1) := dc_29 (by decide +kernel)
theorem dl_744 : decode code 744 = .ok (.iconst 4, 1) := dc_7 (by decide +kernel)
theorem dl_745 : decode code 745 = .ok (.iadd, 1) := dc_96 (by decide +kernel)
theorem dl_746 : decode code 746 = .ok (.iaload, 1) := dc_46 (by decide +kernel)
theorem dl_747 : decode code 747 = .ok (.ifCond .eq 7, 3) := dc_153 (a := 0) (b := 7) (by decide +kernel) rfl
theorem dl_750 : decode code 750 = .ok (.iconst 1, 1) := dc_4 (by decide +kernel)
theorem dl_751 : decode code 751 = .ok (.goto 4, 3) := dc_167 (a := 0) (b := 4) (by decide +kernel) rfl
theorem dl_754 : decode code 754 = .ok (.iconst 0, 1) := dc_3 (by decide +kernel)
theorem dl_755 : decode code 755 = .ok (.invokevirtual 90, 3) := dc_182 (a := 0) (b := 90) (by decide +kernel) rfl
theorem dl_758 : decode code 758 = .ok (.pop, 1) := dc_87 (by decide +kernel)
theorem dl_759 : decode code 759 = .ok (.goto 600, 3) := dc_167 (a := 2) (b := 88) (by decide +kernel) rfl
theorem dl_762 : decode code 762 = .ok (.aload_n 1, 1) := dc_43 (by decide +kernel)
theorem dl_763 : decode code 763 = .ok (.aload_n 0, 1) := dc_42 (by decide +kernel)
theorem dl_764 : decode code 764 = .ok (.iload_n 3, 1) := dc_29 (by decide +kernel)
theorem dl_765 : decode code 765 = .ok (.iconst 1, 1) := dc_4 (by decide +kernel)
theorem dl_766 : decode code 766 = .ok (.iadd, 1) := dc_96 (by decide +kernel)
theorem dl_767 : decode code 767 = .ok (.iaload, 1) := dc_46 (by decide +kernel)
theorem dl_768 : decode code 768 = .ok (.invokevirtual 91, 3) := dc_182 (a := 0) (b := 91) (by decide +kernel) rfl
theorem dl_771 : decode code 771 = .ok (.pop, 1) := dc_87 (by decide +kernel)
theorem dl_772 : decode code 772 = .ok (.aload_n 2, 1) := dc_44 (by decide +kernel)
theorem dl_773 : decode code 773 = .ok (.aload_n 0, 1) := dc_42 (by decide +kernel)
theorem dl_774 : decode code 774 = .ok (.iload_n 3, 1) := dc_29 (by decide +kernel)
theorem dl_775 : decode code 775 = .ok (.iconst 1, 1) := dc_4 (by decide +kernel)
theorem dl_776 : decode code 776 = .ok (.iadd, 1) := dc_96 (by decide +kernel)
theorem dl_777 : decode code 777 = .ok (.iaload, 1) := dc_46 (by decide +kernel)
theorem dl_778 : decode code 778 = .ok (.invokevirtual 94, 3) := dc_182 (a := 0) (b := 94) (by decide +kernel) rfl
theorem dl_781 : decode code 781 = .ok (.pop, 1) := dc_87 (by decide +kernel)
theorem dl_782 : decode code 782 = .ok (.goto 577, 3) := dc_167 (a := 2) (b := 65) (by decide +kernel) rfl
theorem dl_785 : decode code 785 = .ok (.aload_n 1, 1) := dc_43 (by decide +kernel)
theorem dl_786 : decode code 786 = .ok (.invokevirtual 95, 3) := dc_182 (a := 0) (b := 95) (by decide +kernel) rfl
theorem dl_789 : decode code 789 = .ok (.pop, 1) := dc_87 (by decide +kernel)
theorem dl_790 : decode code 790 = .ok (.aload_n 2, 1) := dc_44 (by decide +kernel)
theorem dl_791 : decode code 791 = .ok (.invokevirtual 98, 3) := dc_182 (a := 0) (b := 98) (by decide +kernel) rfl
theorem dl_794 : decode code 794 = .ok (.pop, 1) := dc_87 (by decide +kernel)
theorem dl_795 : decode code 795 = .ok (.goto 564, 3) := dc_167 (a := 2) (b := 52) (by decide +kernel) rfl
theorem dl_798 : decode code 798 = .ok (.aload_n 1, 1) := dc_43 (by decide +kernel)
theorem dl_799 : decode code 799 = .ok (.aload_n 0, 1) := dc_42 (by decide +kernel)
theorem dl_800 : decode code 800 = .ok (.iload_n 3, 1) := dc_29 (by decide +kernel)
theorem dl_801 : decode code 801 = .ok (.iconst 1, 1) := dc_4 (by decide +kernel)
theorem dl_802 : decode code 802 = .ok (.iadd, 1) := dc_96 (by decide +kernel)
theorem dl_803 : decode code 803 = .ok (.iaload, 1) := dc_46 (by decide +kernel)
theorem dl_804 : decode code 804 = .ok (.invokevirtual 99, 3) := dc_182 (a := 0) (b := 99) (by decide +kernel) rfl
theorem dl_807 : decode code 807 = .ok (.pop, 1) := dc_87 (by decide +kernel)
theorem dl_808 : decode code 808 = .ok (.aload_n 2, 1) := dc_44 (by decide +kernel)
theorem dl_809 : decode code 809 = .ok (.aload_n 0, 1) := dc_42 (by decide +kernel)
theorem dl_810 : decode code 810 = .ok (.iload_n 3, 1) := dc_29 (by decide +kernel)
theorem dl_811 : decode code 811 = .ok (.iconst 1, 1) := dc_4 (by decide +kernel)
theorem dl_812 : decode code 812 = .ok (.iadd, 1) := dc_96 (by decide +kernel)
theorem dl_813 : decode code 813 = .ok (.iaload, 1) := dc_46 (by decide +kernel)
theorem dl_814 : decode code 814 = .ok (.invokevirtual 102, 3) := dc_182 (a := 0) (b := 102) (by decide +kernel) rfl
theorem dl_817 : decode code 817 = .ok (.pop, 1) := dc_87 (by decide +kernel)
theorem dl_818 : decode code 818 = .ok (.goto 541, 3) := dc_167 (a := 2) (b := 29) (by decide +kernel) rfl
theorem dl_821 : decode code 821 = .ok (.aload_n 1, 1) := dc_43 (by decide +kernel)
theorem dl_822 : decode code 822 = .ok (.aload_n 0, 1) := dc_42 (by decide +kernel)
theorem dl_823 : decode code 823 = .ok (.iload_n 3, 1) := dc_29 (by decide +kernel)
theorem dl_824 : decode code 824 = .ok (.iconst 1, 1) := dc_4 (by decide +kernel)
theorem dl_825 : decode code 825 = .ok (.iadd, 1) := dc_96 (by decide +kernel)
theorem dl_826 : decode code 826 = .ok (.iaload, 1) := dc_46 (by decide +kernel)
theorem dl_827 : decode code 827 = .ok (.aload_n 0, 1) := dc_42 (by decide +kernel)
theorem dl_828 : decode code 828 = .ok (.iload_n 3, 1) := dc_29 (by decide +kernel)
theorem dl_829 : decode code 829 = .ok (.iconst 2, 1) := dc_5 (by decide +kernel)
theorem dl_830 : decode code 830 = .ok (.iadd, 1) := dc_96 (by decide +kernel)
theorem dl_831 : decode code 831 = .ok (.iaload, 1) := dc_46 (by decide +kernel)
theorem dl_832 : decode code 832 = .ok (.invokevirtual 103, 3) := dc_182 (a := 0) (b := 103) (by decide +kernel) rfl
theorem dl_835 : decode code 835 = .ok (.pop, 1) := dc_87 (by decide +kernel)
theorem dl_836 : decode code 836 = .ok (.aload_n 2, 1) := dc_44 (by decide +kernel)
theorem dl_837 : decode code 837 = .ok (.aload_n 0, 1) := dc_42 (by decide +kernel)
theorem dl_838 : decode code 838 = .ok (.iload_n 3, 1) := dc_29 (by decide +kernel)
theorem dl_839 : decode code 839 = .ok (.iconst 1, 1) := dc_4 (by decide +kernel)
theorem dl_840 : decode code 840 = .ok (.iadd, 1) := dc_96 (by decide +kernel)
theorem dl_841 : decode code 841 = .ok (.iaload, 1) := dc_46 (by decide +kernel)
theorem dl_842 : decode code 842 = .ok (.aload_n 0, 1) := dc_42 (by decide +kernel)
theorem dl_843 : decode code 843 = .ok (.iload_n 3, 1) := dc_29 (by decide +kernel)
theorem dl_844 : decode code 844 = .ok (.iconst 2, 1) := dc_5 (by decide +kernel)
theorem dl_845 : decode code 845 = .ok (.iadd, 1) := dc_96 (by decide +kernel)
theorem dl_846 : decode code 846 = .ok (.iaload, 1) := dc_46 (by decide +kernel)
theorem dl_847 : decode code 847 = .ok (.invokevirtual 106, 3) := dc_182 (a := 0) (b := 106) (by decide +kernel) rfl
theorem dl_850 : decode code 850 = .ok (.pop, 1) := dc_87 (by decide +kernel)
theorem dl_851 : decode code 851 = .ok (.goto 508, 3) := dc_167 (a := 1) (b := 252) (by decide +kernel) rfl
theorem dl_854 : decode code 854 = .ok (.aload_n 1, 1) := dc_43 (by decide +kernel)
theorem dl_855 : decode code 855 = .ok (.aload_n 0, 1) := dc_42 (by decide +kernel)
theorem dl_856 : decode code 856 = .ok (.iload_n 3, 1) := dc_29 (by decide +kernel)
theorem dl_857 : decode code 857 = .ok (.iconst 1, 1) := dc_4 (by decide +kernel)
theorem dl_858 : decode code 858 = .ok (.iadd, 1) := dc_96 (by decide +kernel)
theorem dl_859 : decode code 859 = .ok (.iaload, 1) := dc_46 (by decide +kernel)
theorem dl_860 : decode code 860 = .ok (.aload_n 0, 1) := dc_42 (by decide +kernel)
theorem dl_861 : decode code 861 = .ok (.iload_n 3, 1) := dc_29 (by decide +kernel)
theorem dl_862 : decode code 862 = .ok (.iconst 2, 1) := dc_5 (by decide +kernel)
theorem dl_863 : decode code 863 = .ok (.iadd, 1) := dc_96 (by decide +kernel)
theorem dl_864 : decode code 864 = .ok (.iaload, 1) := dc_46 (by decide +kernel)
theorem dl_865 : decode code 865 = .ok (.aload_n 0, 1) := dc_42 (by decide +kernel)
theorem dl_866 : decode code 866 = .ok (.iload_n 3, 1) := dc_29 (by decide +kernel)
theorem dl_867 : decode code 867 = .ok (.iconst 3, 1) := dc_6 (by decide +kernel)
theorem dl_868 : decode code 868 = .ok (.iadd, 1) := dc_96 (by decide +kernel)
theorem dl_869 : decode code 869 = .ok (.iaload, 1) := dc_46 (by decide +kernel)
theorem dl_870 : decode code 870 = .ok (.aload_n 0, 1) := dc_42 (by decide +kernel)
theorem dl_871 : decode code 871 = .ok (.iload_n 3, 1) := dc_29 (by decide +kernel)
theorem dl_872 : decode code 872 = .ok (.iconst 4, 1) := dc_7 (by decide +kernel)
theorem dl_873 : decode code 873 = .ok (.iadd, 1) := dc_96 (by decide +kernel)
theorem dl_874 : decode code 874 = .ok (.iaload, 1) := dc_46 (by decide +kernel)
theorem dl_875 : decode code 875 = .ok (.invokevirtual 107, 3) := dc_182 (a := 0) (b := 107) (by decide +kernel) rfl
theorem dl_878 : decode code 878 = .ok (.pop, 1) := dc_87 (by decide +kernel)
theorem dl_879 : decode code 879 = .ok (.aload_n 2, 1) := dc_44 (by decide +kernel)
theorem dl_880 : decode code 880 = .ok (.aload_n 0, 1) := dc_42 (by decide +kernel)
theorem dl_881 : decode code 881 = .ok (.iload_n 3, 1) := dc_29 (by decide +kernel)
theorem dl_882 : decode code 882 = .ok (.iconst 1, 1) := dc_4 (by decide +kernel)
theorem dl_883 : decode code 883 = .ok (.iadd, 1) := dc_96 (by decide +kernel)
theorem dl_884 : decode code 884 = .ok (.iaload, 1) := dc_46 (by decide +kernel)
theorem dl_885 : decode code 885 = .ok (.aload_n 0, 1) := dc_42 (by decide +kernel)
theorem dl_886 : decode code 886 = .ok (.iload_n 3, 1) := dc_29 (by decide +kernel)
theorem dl_887 : decode code 887 = .ok (.iconst 2, 1) := dc_5 (by decide +kernel)
theorem dl_888 : decode code 888 = .ok (.iadd, 1) := dc_96 (by decide +kernel)
theorem dl_889 : decode code 889 = .ok (.iaload, 1) := dc_46 (by decide +kernel)
theorem dl_890 : decode code 890 = .ok (.aload_n 0, 1) := dc_42 (by decide +kernel)
theorem dl_891 : decode code 891 = .ok (.iload_n 3, 1) := dc_29 (by decide +kernel)
theorem dl_892 : decode code 892 = .ok (.iconst 3, 1) := dc_6 (by decide +kernel)
theorem dl_893 : decode code 893 = .ok (.iadd, 1) := dc_96 (by decide +kernel)
theorem dl_894 : decode code 894 = .ok (.iaload, 1) := dc_46 (by decide +kernel)
theorem dl_895 : decode code 895 = .ok (.aload_n 0, 1) := dc_42 (by decide +kernel)
theorem dl_896 : decode code 896 = .ok (.iload_n 3, 1) := dc_29 (by decide +kernel)
theorem dl_897 : decode code 897 = .ok (.iconst 4, 1) := dc_7 (by decide +kernel)
theorem dl_898 : decode code 898 = .ok (.iadd, 1) := dc_96 (by decide +kernel)
theorem dl_899 : decode code 899 = .ok (.iaload, 1) := dc_46 (by decide +kernel)
theorem dl_900 : decode code 900 = .ok (.invokevirtual 111, 3) := dc_182 (a := 0) (b := 111) (by decide +kernel) rfl
theorem dl_903 : decode code 903 = .ok (.pop, 1) := dc_87 (by decide +kernel)
theorem dl_904 : decode code 904 = .ok (.goto 455, 3) := dc_167 (a := 1) (b := 199) (by decide +kernel) rfl
theorem dl_907 : decode code 907 = .ok (.aload_n 1, 1) := dc_43 (by decide +kernel)
theorem dl_908 : decode code 908 = .ok (.aload_n 0, 1) := dc_42 (by decide +kernel)
theorem dl_909 : decode code 909 = .ok (.iload_n 3, 1) := dc_29 (by decide +kernel)
theorem dl_910 : decode code 910 = .ok (.iconst 1, 1) := dc_4 (by decide +kernel)
theorem dl_911 : decode code 911 = .ok (.iadd, 1) := dc_96 (by decide +kernel)
theorem dl_912 : decode code 912 = .ok (.iaload, 1) := dc_46 (by decide +kernel)
theorem dl_913 : decode code 913 = .ok (.aload_n 0, 1) := dc_42 (by decide +kernel)
theorem dl_914 : decode code 914 = .ok (.iload_n 3, 1) := dc_29 (by decide +kernel)
theorem dl_915 : decode code 915 = .ok (.iconst 2, 1) := dc_5 (by decide +kernel)
theorem dl_916 : decode code 916 = .ok (.iadd, 1) := dc_96 (by decide +kernel)
theorem dl_917 : decode code 917 = .ok (.iaload, 1) := dc_46 (by decide +kernel)
theorem dl_918 : decode code 918 = .ok (.aload_n 0, 1) := dc_42 (by decide +kernel)
theorem dl_919 : decode code 919 = .ok (.iload_n 3, 1) := dc_29 (by decide +kernel)
theorem dl_920 : decode code 920 = .ok (.iconst 3, 1) := dc_6 (by decide +kernel)
theorem dl_921 : decode code 921 = .ok (.iadd, 1) := dc_96 (by decide +kernel)
theorem dl_922 : decode code 922 = .ok (.iaload, 1) := dc_46 (by decide +kernel)
theorem dl_923 : decode code 923 = .ok (.invokevirtual 112, 3) := dc_182 (a := 0) (b := 112) (by decide +kernel) rfl
theorem dl_926 : decode code 926 = .ok (.pop, 1) := dc_87 (by decide +kernel)
theorem dl_927 : decode code 927 = .ok (.aload_n 2, 1) := dc_44 (by decide +kernel)
theorem dl_928 : decode code 928 = .ok (.aload_n 0, 1) := dc_42 (by decide +kernel)
theorem dl_929 : decode code 929 = .ok (.iload_n 3, 1) := dc_29 (by decide +kernel)
theorem dl_930 : decode code 930 = .ok (.iconst 1, 1) := dc_4 (by decide +kernel)
theorem dl_931 : decode code 931 = .ok (.iadd, 1) := dc_96 (by decide +kernel)
theorem dl_932 : decode code 932 = .ok (.iaload, 1) := dc_46 (by decide +kernel)
theorem dl_933 : decode code 933 = .ok (.aload_n 0, 1) := dc_42 (by decide +kernel)
theorem dl_934 : decode code 934 = .ok (.iload_n 3, 1) := dc_29 (by decide +kernel)
theorem dl_935 : decode code 935 = .ok (.iconst 2, 1) := dc_5 (by decide +kernel)
theorem dl_936 : decode code 936 = .ok (.iadd, 1) := dc_96 (by decide +kernel)
theorem dl_937 : decode code 937 = .ok (.iaload, 1) := dc_46 (by decide +kernel)
theorem dl_938 : decode code 938 = .ok (.aload_n 0, 1) := dc_42 (by decide +kernel)
theorem dl_939 : decode code 939 = .ok (.iload_n 3, 1) := dc_29 (by decide +kernel)
theorem dl_940 : decode code 940 = .ok (.iconst 3, 1) := dc_6 (by decide +kernel)
theorem dl_941 : decode code 941 = .ok (.iadd, 1) := dc_96 (by decide +kernel)
theorem dl_942 : decode code 942 = .ok (.iaload, 1) := dc_46 (by decide +kernel)
theorem dl_943 : decode code 943 = .ok (.invokevirtual 115, 3) := dc_182 (a := 0) (b := 115) (by decide +kernel) rfl
theorem dl_946 : decode code 946 = .ok (.pop, 1) := dc_87 (by decide +kernel)
theorem dl_947 : decode code 947 = .ok (.goto 412, 3) := dc_167 (a := 1) (b := 156) (by decide +kernel) rfl
theorem dl_950 : decode code 950 = .ok (.aload_n 1, 1) := dc_43 (by decide +kernel)
theorem dl_951 : decode code 951 = .ok (.aload_n 0, 1) := dc_42 (by decide +kernel)
theorem dl_952 : decode code 952 = .ok (.iload_n 3, 1) := dc_29 (by decide +kernel)
theorem dl_953 : decode code 953 = .ok (.iconst 1, 1) := dc_4 (by decide +kernel)
theorem dl_954 : decode code 954 = .ok (.iadd, 1) := dc_96 (by decide +kernel)
theorem dl_955 : decode code 955 = .ok (.iaload, 1) := dc_46 (by decide +kernel)
theorem dl_956 : decode code 956 = .ok (.aload_n 0, 1) := dc_42 (by decide +kernel)
theorem dl_957 : decode code 957 = .ok (.iload_n 3, 1) := dc_29 (by decide +kernel)
theorem dl_958 : decode code 958 = .ok (.iconst 2, 1) := dc_5 (by decide +kernel)
theorem dl_959 : decode code 959 = .ok (.iadd, 1) := dc_96 (by decide +kernel)
theorem dl_960 : decode code 960 = .ok (.iaload, 1) := dc_46 (by decide +kernel)
theorem dl_961 : decode code 961 = .ok (.aload_n 0, 1) := dc_42 (by decide +kernel)
theorem dl_962 : decode code 962 = .ok (.iload_n 3, 1) := dc_29 (by decide +kernel)
theorem dl_963 : decode code 963 = .ok (.iconst 3, 1) := dc_6 (by decide +kernel)
theorem dl_964 : decode code 964 = .ok (.iadd, 1) := dc_96 (by decide +kernel)
theorem dl_965 : decode code 965 = .ok (.iaload, 1) := dc_46 (by decide +kernel)
theorem dl_966 : decode code 966 = .ok (.aload_n 0, 1) := dc_42 (by decide +kernel)
theorem dl_967 : decode code 967 = .ok (.iload_n 3, 1) := dc_29 (by decide +kernel)
theorem dl_968 : decode code 968 = .ok (.iconst 4, 1) := dc_7 (by decide +kernel)
theorem dl_969 : decode code 969 = .ok (.iadd, 1) := dc_96 (by decide +kernel)
theorem dl_970 : decode code 970 = .ok (.iaload, 1) := dc_46 (by decide +kernel)
theorem dl_971 : decode code 971 = .ok (.invokevirtual 116, 3) := dc_182 (a := 0) (b := 116) (by decide +kernel) rfl
theorem dl_974 : decode code 974 = .ok (.pop2, 1) := dc_88 (by decide +kernel)
theorem dl_975 : decode code 975 = .ok (.aload_n 2, 1) := dc_44 (by decide +kernel)
theorem dl_976 : decode code 976 = .ok (.aload_n 0, 1) := dc_42 (by decide +kernel)
theorem dl_977 : decode code 977 = .ok (.iload_n 3, 1) := dc_29 (by decide +kernel)
theorem dl_978 : decode code 978 = .ok (.iconst 1, 1) := dc_4 (by decide +kernel)
theorem dl_979 : decode code 979 = .ok (.iadd, 1) := dc_96 (by decide +kernel)
theorem dl_980 : decode code 980 = .ok (.iaload, 1) := dc_46 (by decide +kernel)
theorem dl_981 : decode code 981 = .ok (.aload_n 0, 1) := dc_42 (by decide +kernel)
theorem dl_982 : decode code 982 = .ok (.iload_n 3, 1) := dc_29 (by decide +kernel)
theorem dl_983 : decode code 983 = .ok (.iconst 2, 1) := dc_5 (by decide +kernel)
theorem dl_984 : decode code 984 = .ok (.iadd, 1) := dc_96 (by decide +kernel)
theorem dl_985 : decode code 985 = .ok (.iaload, 1) := dc_46 (by decide +kernel)
theorem dl_986 : decode code 986 = .ok (.aload_n 0, 1) := dc_42 (by decide +kernel)
theorem dl_987 : decode code 987 = .ok (.iload_n 3, 1) := dc_29 (by decide +kernel)
theorem dl_988 : decode code 988 = .ok (.iconst 3, 1) := dc_6 (by decide +kernel)
theorem dl_989 : decode code 989 = .ok (.iadd, 1) := dc_96 (by decide +kernel)
theorem dl_990 : decode code 990 = .ok (.iaload, 1) := dc_46 (by decide +kernel)
theorem dl_991 : decode code 991 = .ok (.aload_n 0, 1) := dc_42 (by decide +kernel)
theorem dl_992 : decode code 992 = .ok (.iload_n 3, 1) := dc_29 (by decide +kernel)
theorem dl_993 : decode code 993 = .ok (.iconst 4, 1) := dc_7 (by decide +kernel)
theorem dl_994 : decode code 994 = .ok (.iadd, 1) := dc_96 (by decide +kernel)
theorem dl_995 : decode code 995 = .ok (.iaload, 1) := dc_46 (by decide +kernel)
theorem dl_996 : decode code 996 = .ok (.invokevirtual 120, 3) := dc_182 (a := 0) (b := 120) (by decide +kernel) rfl
theorem dl_999 : decode code 999 = .ok (.pop2, 1) := dc_88 (by decide +kernel)
theorem dl_1000 : decode code 1000 = .ok (.goto 359, 3) := dc_167 (a := 1) (b := 103) (by decide +kernel) rfl
theorem dl_1003 : decode code 1003 = .ok (.aload_n 1, 1) := dc_43 (by decide +kernel)
theorem dl_1004 : decode code 1004 = .ok (.aload_n 0, 1) := dc_42 (by decide +kernel)
theorem dl_1005 : decode code 1005 = .ok (.iload_n 3, 1) := dc_29 (by decide +kernel)
theorem dl_1006 : decode code 1006 = .ok (.iconst 1, 1) := dc_4 (by decide +kernel)
theorem dl_1007 : decode code 1007 = .ok (.iadd, 1) := dc_96 (by decide +kernel)
theorem dl_1008 : decode code 1008 = .ok (.iaload, 1) := dc_46 (by decide +kernel)
theorem dl_1009 : decode code 1009 = .ok (.invokevirtual 121, 3) := dc_182 (a := 0) (b := 121) (by decide +kernel) rfl
theorem dl_1012 : decode code 1012 = .ok (.pop, 1) := dc_87 (by decide +kernel)
theorem dl_1013 : decode code 1013 = .ok (.aload_n 2, 1) := dc_44 (by decide +kernel)
theorem dl_1014 : decode code 1014 = .ok (.aload_n 0, 1) := dc_42 (by decide +kernel)
theorem dl_1015 : decode code 1015 = .ok (.iload_n 3, 1) := dc_29 (by decide +kernel)
theorem dl_1016 : decode code 1016 = .ok (.iconst 1, 1) := dc_4 (by decide +kernel)
theorem dl_1017 : decode code 1017 = .ok (.iadd, 1) := dc_96 (by decide +kernel)
theorem dl_1018 : decode code 1018 = .ok (.iaload, 1) := dc_46 (by decide +kernel)
theorem dl_1019 : decode code 1019 = .ok (.invokevirtual 124, 3) := dc_182 (a := 0) (b := 124) (by decide +kernel) rfl
theorem dl_1022 : decode code 1022 = .ok (.pop, 1) := dc_87 (by decide +kernel)
theorem dl_1023 : decode code 1023 = .ok (.goto 336, 3) := dc_167 (a := 1) (b := 80) (by decide +kernel) rfl
theorem dl_1026 : decode code 1026 = .ok (.aload_n 1, 1) := dc_43 (by decide +kernel)
theorem dl_1027 : decode code 1027 = .ok (.aload_n 0, 1) := dc_42 (by decide +kernel)
theorem dl_1028 : decode code 1028 = .ok (.iload_n 3, 1) := dc_29 (by decide +kernel)
theorem dl_1029 : decode code 1029 = .ok (.iconst 1, 1) := dc_4 (by decide +kernel)
theorem dl_1030 : decode code 1030 = .ok (.iadd, 1) := dc_96 (by decide +kernel)
theorem dl_1031 : decode code 1031 = .ok (.iaload, 1) := dc_46 (by decide +kernel)
theorem dl_1032 : decode code 1032 = .ok (.aload_n 0, 1) := dc_42 (by decide +kernel)
theorem dl_1033 : decode code 1033 = .ok (.iload_n 3, 1) := dc_29 (by decide +kernel)
theorem dl_1034 : decode code 1034 = .ok (.iconst 2, 1) := dc_5 (by decide +kernel)
theorem dl_1035 : decode code 1035 = .ok (.iadd, 1) := dc_96 (by decide +kernel)
theorem dl_1036 : decode code 1036 = .ok (.iaload, 1) := dc_46 (by decide +kernel)
theorem dl_1037 : decode code 1037 = .ok (.invokevirtual 125, 3) := dc_182 (a := 0) (b := 125) (by decide +kernel) rfl
theorem dl_1040 : decode code 1040 = .ok (.pop, 1) := dc_87 (by decide +kernel)
theorem dl_1041 : decode code 1041 = .ok (.aload_n 2, 1) := dc_44 (by decide +kernel)
theorem dl_1042 : decode code 1042 = .ok (.aload_n 0, 1) := dc_42 (by decide +kernel)
theorem dl_1043 : decode code 1043 = .ok (.iload_n 3, 1) := dc_29 (by decide +kernel)
theorem dl_1044 : decode code 1044 = .ok (.iconst 1, 1) := dc_4 (by decide +kernel)
theorem dl_1045 : decode code 1045 = .ok (.iadd, 1) := dc_96 (by decide +kernel)
theorem dl_1046 : decode code 1046 = .ok (.iaload, 1) := dc_46 (by decide +kernel)
theorem dl_1047 : decode code 1047 = .ok (.aload_n 0, 1) := dc_42 (by decide +kernel)
theorem dl_1048 : decode code 1048 = .ok (.iload_n 3, 1) := dc_29 (by decide +kernel)
theorem dl_1049 : decode code 1049 = .ok (.iconst 2, 1) := dc_5 (by decide +kernel)
theorem dl_1050 : decode code 1050 = .ok (.iadd, 1) := dc_96 (by decide +kernel)
theorem dl_1051 : decode code 1051 = .ok (.iaload, 1) := dc_46 (by decide +kernel)
theorem dl_1052 : decode code 1052 = .ok (.invokevirtual 128, 3) := dc_182 (a := 0) (b := 128) (by decide +kernel) rfl
theorem dl_1055 : decode code 1055 = .ok (.pop, 1) := dc_87 (by decide +kernel)
theorem dl_1056 : decode code 1056 = .ok (.goto 303, 3) := dc_167 (a := 1) (b := 47) (by decide +kernel) rfl
theorem dl_1059 : decode code 1059 = .ok (.aload_n 1, 1) := dc_43 (by decide +kernel)
theorem dl_1060 : decode code 1060 = .ok (.aload_n 0, 1) := dc_42 (by decide +kernel)
theorem dl_1061 : decode code 1061 = .ok (.iload_n 3, 1) := dc_29 (by decide +kernel)
theorem dl_1062 : decode code 1062 = .ok (.iconst 1, 1) := dc_4 (by decide +kernel)
theorem dl_1063 : decode code 1063 = .ok (.iadd, 1) := dc_96 (by decide +kernel)
theorem dl_1064 : decode code 1064 = .ok (.iaload, 1) := dc_46 (by decide +kernel)
theorem dl_1065 : decode code 1065 = .ok (.invokevirtual 129, 3) := dc_182 (a := 0) (b := 129) (by decide +kernel) rfl
theorem dl_1068 : decode code 1068 = .ok (.pop, 1) := dc_87 (by decide +kernel)
theorem dl_1069 : decode code 1069 = .ok (.aload_n 2, 1) := dc_44 (by decide +kernel)
theorem dl_1070 : decode code 1070 = .ok (.aload_n 0, 1) := dc_42 (by decide +kernel)
theorem dl_1071 : decode code 1071 = .ok (.iload_n 3, 1) := dc_29 (by decide +kernel)
theorem dl_1072 : decode code 1072 = .ok (.iconst 1, 1) := dc_4 (by decide +kernel)
theorem dl_1073 : decode code 1073 = .ok (.iadd, 1) := dc_96 (by decide +kernel)
theorem dl_1074 : decode code 1074 = .ok (.iaload, 1) := dc_46 (by decide +kernel)
theorem dl_1075 : decode code 1075 = .ok (.invokevirtual 132, 3) := dc_182 (a := 0) (b := 132) (by decide +kernel) rfl
theorem dl_1078 : decode code 1078 = .ok (.pop, 1) := dc_87 (by decide +kernel)
theorem dl_1079 : decode code 1079 = .ok (.goto 280, 3) := dc_167 (a := 1) (b := 24) (by decide +kernel) rfl
theorem dl_1082 : decode code 1082 = .ok (.aload_n 1, 1) := dc_43 (by decide +kernel)
theorem dl_1083 : decode code 1083 = .ok (.aload_n 0, 1) := dc_42 (by decide +kernel)
theorem dl_1084 : decode code 1084 = .ok (.iload_n 3, 1) := dc_29 (by decide +kernel)
theorem dl_1085 : decode code 1085 = .ok (.iconst 1, 1) := dc_4 (by decide +kernel)
theorem dl_1086 : decode code 1086 = .ok (.iadd, 1) := dc_96 (by decide +kernel)
theorem dl_1087 : decode code 1087 = .ok (.iaload, 1) := dc_46 (by decide +kernel)
theorem dl_1088 : decode code 1088 = .ok (.invokevirtual 133, 3) := dc_182 (a := 0) (b := 133) (by decide +kernel) rfl
theorem dl_1091 : decode code 1091 = .ok (.pop, 1) := dc_87 (by decide +kernel)
theorem dl_1092 : decode code 1092 = .ok (.aload_n 2, 1) := dc_44 (by decide +kernel)
theorem dl_1093 : decode code 1093 = .ok (.aload_n 0, 1) := dc_42 (by decide +kernel)
theorem dl_1094 : decode code 1094 = .ok (.iload_n 3, 1) := dc_29 (by decide +kernel)
theorem dl_1095 : decode code 1095 = .ok (.iconst 1, 1) := dc_4 (by decide +kernel)
theorem dl_1096 : decode code 1096 = .ok (.iadd, 1) := dc_96 (by decide +kernel)
theorem dl_1097 : decode code 1097 = .ok (.iaload, 1) := dc_46 (by decide +kernel)
theorem dl_1098 : decode code 1098 = .ok (.invokevirtual 136, 3) := dc_182 (a := 0) (b := 136) (by decide +kernel) rfl
theorem dl_1101 : decode code 1101 = .ok (.pop, 1) := dc_87 (by decide +kernel)
theorem dl_1102 : decode code 1102 = .ok (.goto 257, 3) := dc_167 (a := 1) (b := 1) (by decide +kernel) rfl
theorem dl_1105 : decode code 1105 = .ok (.aload_n 1, 1) := dc_43 (by decide +kernel)
theorem dl_1106 : decode code 1106 = .ok (.aload_n 0, 1) := dc_42 (by decide +kernel)
theorem dl_1107 : decode code 1107 = .ok (.iload_n 3, 1) := dc_29 (by decide +kernel)
theorem dl_1108 : decode code 1108 = .ok (.iconst 1, 1) := dc_4 (by decide +kernel)
theorem dl_1109 : decode code 1109 = .ok (.iadd, 1) := dc_96 (by decide +kernel)
theorem dl_1110 : decode code 1110 = .ok (.iaload, 1) := dc_46 (by decide +kernel)
theorem dl_1111 : decode code 1111 = .ok (.aload_n 0, 1) := dc_42 (by decide +kernel)
theorem dl_1112 : decode code 1112 = .ok (.iload_n 3, 1) := dc_29 (by decide +kernel)
theorem dl_1113 : decode code 1113 = .ok (.iconst 2, 1) := dc_5 (by decide +kernel)
theorem dl_1114 : decode code 1114 = .ok (.iadd, 1) := dc_96 (by decide +kernel)
theorem dl_1115 : decode code 1115 = .ok (.iaload, 1) := dc_46 (by decide +kernel)
theorem dl_1116 : decode code 1116 = .ok (.invokevirtual 137, 3) := dc_182 (a := 0) (b := 137) (by decide +kernel) rfl
theorem dl_1119 : decode code 1119 = .ok (.pop, 1) := dc_87 (by decide +kernel)
theorem dl_1120 : decode code 1120 = .ok (.aload_n 2, 1) := dc_44 (by decide +kernel)
theorem dl_1121 : decode code 1121 = .ok (.aload_n 0, 1) := dc_42 (by decide +kernel)
theorem dl_1122 : decode code 1122 = .ok (.iload_n 3, 1) := dc_29 (by decide +kernel)
theorem dl_1123 : decode code 1123 = .ok (.iconst 1, 1) := dc_4 (by decide +kernel)
theorem dl_1124 : decode code 1124 = .ok (.iadd, 1) := dc_96 (by decide +kernel)
theorem dl_1125 : decode code 1125 = .ok (.iaload, 1) := dc_46 (by decide +kernel)
theorem dl_1126 : decode code 1126 = .ok (.aload_n 0, 1) := dc_42 (by decide +kernel)
theorem dl_1127 : decode code 1127 = .ok (.iload_n 3, 1) := dc_29 (by decide +kernel)
theorem dl_1128 : decode code 1128 = .ok (.iconst 2, 1) := dc_5 (by decide +kernel)
theorem dl_1129 : decode code 1129 = .ok (.iadd, 1) := dc_96 (by decide +kernel)
theorem dl_1130 : decode code 1130 = .ok (.iaload, 1) := dc_46 (by decide +kernel)
theorem dl_1131 : decode code 1131 = .ok (.invokevirtual 140, 3) := dc_182 (a := 0) (b := 140) (by decide +kernel) rfl
theorem dl_1134 : decode code 1134 = .ok (.pop, 1) := dc_87 (by decide +kernel)
theorem dl_1135 : decode code 1135 = .ok (.goto 224, 3) := dc_167 (a := 0) (b := 224) (by decide +kernel) rfl
theorem dl_1138 : decode code 1138 = .ok (.aload_n 1, 1) := dc_43 (by decide +kernel)
theorem dl_1139 : decode code 1139 = .ok (.aload_n 0, 1) := dc_42 (by decide +kernel)
theorem dl_1140 : decode code 1140 = .ok (.iload_n 3, 1) := dc_29 (by decide +kernel)
theorem dl_1141 : decode code 1141 = .ok (.iconst 1, 1) := dc_4 (by decide +kernel)
theorem dl_1142 : decode code 1142 = .ok (.iadd, 1) := dc_96 (by decide +kernel)
theorem dl_1143 : decode code 1143 = .ok (.iaload, 1) := dc_46 (by decide +kernel)
theorem dl_1144 : decode code 1144 = .ok (.invokevirtual 141, 3) := dc_182 (a := 0) (b := 141) (by decide +kernel) rfl
theorem dl_1147 : decode code 1147 = .ok (.pop, 1) := dc_87 (by decide +kernel)
theorem dl_1148 : decode code 1148 = .ok (.aload_n 2, 1) := dc_44 (by decide +kernel)
theorem dl_1149 : decode code 1149 = .ok (.aload_n 0, 1) := dc_42 (by decide +kernel)
theorem dl_1150 : decode code 1150 = .ok (.iload_n 3, 1) := dc_29 (by decide +kernel)
theorem dl_1151 : decode code 1151 = .ok (.iconst 1, 1) := dc_4 (by decide +kernel)
theorem dl_1152 : decode code 1152 = .ok (.iadd, 1) := dc_96 (by decide +kernel)
theorem dl_1153 : decode code 1153 = .ok (.iaload, 1) := dc_46 (by decide +kernel)
theorem dl_1154 : decode code 1154 = .ok (.invokevirtual 144, 3) := dc_182 (a := 0) (b := 144) (by decide +kernel) rfl
theorem dl_1157 : decode code 1157 = .ok (.pop, 1) := dc_87 (by decide +kernel)
theorem dl_1158 : decode code 1158 = .ok (.goto 201, 3) := dc_167 (a := 0) (b := 201) (by decide +kernel) rfl
theorem dl_1161 : decode code 1161 = .ok (.aload_n 1, 1) := dc_43 (by decide +kernel)
theorem dl_1162 : decode code 1162 = .ok (.aload_n 0, 1) := dc_42 (by decide +kernel)
theorem dl_1163 : decode code 1163 = .ok (.iload_n 3, 1) := dc_29 (by decide +kernel)
theorem dl_1164 : decode code 1164 = .ok (.iconst 1, 1) := dc_4 (by decide +kernel)
theorem dl_1165 : decode code 1165 = .ok (.iadd, 1) := dc_96 (by decide +kernel)
theorem dl_1166 : decode code 1166 = .ok (.iaload, 1) := dc_46 (by decide +kernel)
theorem dl_1167 : decode code 1167 = .ok (.invokevirtual 145, 3) := dc_182 (a := 0) (b := 145) (by decide +kernel) rfl
theorem dl_1170 : decode code 1170 = .ok (.pop, 1) := dc_87 (by decide +kernel)
theorem dl_1171 : decode code 1171 = .ok (.aload_n 2, 1) := dc_44 (by decide +kernel)
theorem dl_1172 : decode code 1172 = .ok (.aload_n 0, 1) := dc_42 (by decide +kernel)
theorem dl_1173 : decode code 1173 = .ok (.iload_n 3, 1) := dc_29 (by decide +kernel)
theorem dl_1174 : decode code 1174 = .ok (.iconst 1, 1) := dc_4 (by decide +kernel)
theorem dl_1175 : decode code 1175 = .ok (.iadd, 1) := dc_96 (by decide +kernel)
theorem dl_1176 : decode code 1176 = .ok (.iaload, 1) := dc_46 (by decide +kernel)
theorem dl_1177 : decode code 1177 = .ok (.invokevirtual 148, 3) := dc_182 (a := 0) (b := 148) (by decide +kernel) rfl
theorem dl_1180 : decode code 1180 = .ok (.pop, 1) := dc_87 (by decide +kernel)
theorem dl_1181 : decode code 1181 = .ok (.goto 178, 3) := dc_167 (a := 0) (b := 178) (by decide +kernel) rfl
theorem dl_1184 : decode code 1184 = .ok (.aload_n 1, 1) := dc_43 (by decide +kernel)
theorem dl_1185 : decode code 1185 = .ok (.aload_n 0, 1) := dc_42 (by decide +kernel)
theorem dl_1186 : decode code 1186 = .ok (.iload_n 3, 1) := dc_29 (by decide +kernel)
theorem dl_1187 : decode code 1187 = .ok (.iconst 1, 1) := dc_4 (by decide +kernel)
theorem dl_1188 : decode code 1188 = .ok (.iadd, 1) := dc_96 (by decide +kernel)
theorem dl_1189 : decode code 1189 = .ok (.iaload, 1) := dc_46 (by decide +kernel)
theorem dl_1190 : decode code 1190 = .ok (.aload_n 0, 1) := dc_42 (by decide +kernel)
theorem dl_1191 : decode code 1191 = .ok (.iload_n 3, 1) := dc_29 (by decide +kernel)
theorem dl_1192 : decode code 1192 = .ok (.iconst 2, 1) := dc_5 (by decide +kernel)
theorem dl_1193 : decode code 1193 = .ok (.iadd, 1) := dc_96 (by decide +kernel)
theorem dl_1194 : decode code 1194 = .ok (.iaload, 1) := dc_46 (by decide +kernel)
theorem dl_1195 : decode code 1195 = .ok (.aload_n 0, 1) := dc_42 (by decide +kernel)
theorem dl_1196 : decode code 1196 = .ok (.iload_n 3, 1) := dc_29 (by decide +kernel)
theorem dl_1197 : decode code 1197 = .ok (.iconst 3, 1) := dc_6 (by decide +kernel)
theorem dl_1198 : decode code 1198 = .ok (.iadd, 1) := dc_96 (by decide +kernel)
theorem dl_1199 : decode code 1199 = .ok (.iaload, 1) := dc_46 (by decide +kernel)
theorem dl_1200 : decode code 1200 = .ok (.invokevirtual 149, 3) := dc_182 (a := 0) (b := 149) (by decide +kernel) rfl
theorem dl_1203 : decode code 1203 = .ok (.pop, 1) := dc_87 (by decide +kernel)
theorem dl_1204 : decode code 1204 = .ok (.aload_n 2, 1) := dc_44 (by decide +kernel)
theorem dl_1205 : decode code 1205 = .ok (.aload_n 0, 1) := dc_42 (by decide +kernel)
theorem dl_1206 : decode code 1206 = .ok (.iload_n 3, 1) := dc_29 (by decide +kernel)
theorem dl_1207 : decode code 1207 = .ok (.iconst 1, 1) := dc_4 (by decide +kernel)
theorem dl_1208 : decode code 1208 = .ok (.iadd, 1) := dc_96 (by decide +kernel)
theorem dl_1209 : decode code 1209 = .ok (.iaload, 1) := dc_46 (by decide +kernel)
theorem dl_1210 : decode code 1210 = .ok (.aload_n 0, 1) := dc_42 (by decide +kernel)
theorem dl_1211 : decode code 1211 = .ok (.iload_n 3, 1) := dc_29 (by decide +kernel)
theorem dl_1212 : decode code 1212 = .ok (.iconst 2, 1) := dc_5 (by decide +kernel)
theorem dl_1213 : decode code 1213 = .ok (.iadd, 1) := dc_96 (by decide +kernel)
theorem dl_1214 : decode code 1214 = .ok (.iaload, 1) := dc_46 (by decide +kernel)
theorem dl_1215 : decode code 1215 = .ok (.aload_n 0, 1) := dc_42 (by decide +kernel)
theorem dl_1216 : decode code 1216 = .ok (.iload_n 3, 1) := dc_29 (by decide +kernel)
theorem dl_1217 : decode code 1217 = .ok (.iconst 3, 1) := dc_6 (by decide +kernel)
theorem dl_1218 : decode code 1218 = .ok (.iadd, 1) := dc_96 (by decide +kernel)
theorem dl_1219 : decode code 1219 = .ok (.iaload, 1) := dc_46 (by decide +kernel)
theorem dl_1220 : decode code 1220 = .ok (.invokevirtual 152, 3) := dc_182 (a := 0) (b := 152) (by decide +kernel) rfl
theorem dl_1223 : decode code 1223 = .ok (.pop, 1) := dc_87 (by decide +kernel)
theorem dl_1224 : decode code 1224 = .ok (.goto 135, 3) := dc_167 (a := 0) (b := 135) (by decide +kernel) rfl
theorem dl_1227 : decode code 1227 = .ok (.aload_n 1, 1) := dc_43 (by decide +kernel)
theorem dl_1228 : decode code 1228 = .ok (.aload_n 0, 1) := dc_42 (by decide +kernel)
theorem dl_1229 : decode code 1229 = .ok (.iload_n 3, 1) := dc_29 (by decide +kernel)
theorem dl_1230 : decode code 1230 = .ok (.iconst 1, 1) := dc_4 (by decide +kernel)
theorem dl_1231 : decode code 1231 = .ok (.iadd, 1) := dc_96 (by decide +kernel)
theorem dl_1232 : decode code 1232 = .ok (.iaload, 1) := dc_46 (by decide +kernel)
theorem dl_1233 : decode code 1233 = .ok (.aload_n 0, 1) := dc_42 (by decide +kernel)
theorem dl_1234 : decode code 1234 = .ok (.iload_n 3, 1) := dc_29 (by decide +kernel)
theorem dl_1235 : decode code 1235 = .ok (.iconst 2, 1) := dc_5 (by decide +kernel)
theorem dl_1236 : decode code 1236 = .ok (.iadd, 1) := dc_96 (by decide +kernel)
theorem dl_1237 : decode code 1237 = .ok (.iaload, 1) := dc_46 (by decide +kernel)
theorem dl_1238 : decode code 1238 = .ok (.aload_n 0, 1) := dc_42 (by decide +kernel)
theorem dl_1239 : decode code 1239 = .ok (.iload_n 3, 1) := dc_29 (by decide +kernel)
theorem dl_1240 : decode code 1240 = .ok (.iconst 3, 1) := dc_6 (by decide +kernel)
theorem dl_1241 : decode code 1241 = .ok (.iadd, 1) := dc_96 (by decide +kernel)
theorem dl_1242 : decode code 1242 = .ok (.iaload, 1) := dc_46 (by decide +kernel)
theorem dl_1243 : decode code 1243 = .ok (.invokevirtual 153, 3) := dc_182 (a := 0) (b := 153) (by decide +kernel) rfl
theorem dl_1246 : decode code 1246 = .ok (.pop, 1) := dc_87 (by decide +kernel)
theorem dl_1247 : decode code 1247 = .ok (.aload_n 2, 1) := dc_44 (by decide +kernel)
theorem dl_1248 : decode code 1248 = .ok (.aload_n 0, 1) := dc_42 (by decide +kernel)
theorem dl_1249 : decode code 1249 = .ok (.iload_n 3, 1) := dc_29 (by decide +kernel)
theorem dl_1250 : decode code 1250 = .ok (.iconst 1, 1) := dc_4 (by decide +kernel)
theorem dl_1251 : decode code 1251 = .ok (.iadd, 1) := dc_96 (by decide +kernel)
theorem dl_1252 : decode code 1252 = .ok (.iaload, 1) := dc_46 (by decide +kernel)
theorem dl_1253 : decode code 1253 = .ok (.aload_n 0, 1) := dc_42 (by decide +kernel)
theorem dl_1254 : decode code 1254 = .ok (.iload_n 3, 1) := dc_29 (by decide +kernel)
theorem dl_1255 : decode code 1255 = .ok (.iconst 2, 1) := dc_5 (by decide +kernel)
theorem dl_1256 : decode code 1256 = .ok (.iadd, 1) := dc_96 (by decide +kernel)
theorem dl_1257 : decode code 1257 = .ok (.iaload, 1) := dc_46 (by decide +kernel)
theorem dl_1258 : decode code 1258 = .ok (.aload_n 0, 1) := dc_42 (by decide +kernel)
theorem dl_1259 : decode code 1259 = .ok (.iload_n 3, 1) := dc_29 (by decide +kernel)
theorem dl_1260 : decode code 1260 = .ok (.iconst 3, 1) := dc_6 (by decide +kernel)
theorem dl_1261 : decode code 1261 = .ok (.iadd, 1) := dc_96 (by decide +kernel)
theorem dl_1262 : decode code 1262 = .ok (.iaload, 1) := dc_46 (by decide +kernel)
theorem dl_1263 : decode code 1263 = .ok (.invokevirtual 156, 3) := dc_182 (a := 0) (b := 156) (by decide +kernel) rfl
theorem dl_1266 : decode code 1266 = .ok (.pop, 1) := dc_87 (by decide +kernel)
theorem dl_1267 : decode code 1267 = .ok (.goto 92, 3) := dc_167 (a := 0) (b := 92) (by decide +kernel) rfl
theorem dl_1270 : decode code 1270 = .ok (.aload_n 1, 1) := dc_43 (by decide +kernel)
theorem dl_1271 : decode code 1271 = .ok (.aload_n 0, 1) := dc_42 (by decide +kernel)
theorem dl_1272 : decode code 1272 = .ok (.iload_n 3, 1) := dc_29 (by decide +kernel)
theorem dl_1273 : decode code 1273 = .ok (.iconst 1, 1) := dc_4 (by decide +kernel)
theorem dl_1274 : decode code 1274 = .ok (.iadd, 1) := dc_96 (by decide +kernel)
theorem dl_1275 : decode code 1275 = .ok (.iaload, 1) := dc_46 (by decide +kernel)
theorem dl_1276 : decode code 1276 = .ok (.aload_n 0, 1) := dc_42 (by decide +kernel)
theorem dl_1277 : decode code 1277 = .ok (.iload_n 3, 1) := dc_29 (by decide +kernel)
theorem dl_1278 : decode code 1278 = .ok (.iconst 2, 1) := dc_5 (by decide +kernel)
theorem dl_1279 : decode code 1279 = .ok (.iadd, 1) := dc_96 (by decide +kernel)
theorem dl_1280 : decode code 1280 = .ok (.iaload, 1) := dc_46 (by decide +kernel)
theorem dl_1281 : decode code 1281 = .ok (.aload_n 0, 1) := dc_42 (by decide +kernel)
theorem dl_1282 : decode code 1282 = .ok (.iload_n 3, 1) := dc_29 (by decide +kernel)
theorem dl_1283 : decode code 1283 = .ok (.iconst 3, 1) := dc_6 (by decide +kernel)
theorem dl_1284 : decode code 1284 = .ok (.iadd, 1) := dc_96 (by decide +kernel)
theorem dl_1285 : decode code 1285 = .ok (.iaload, 1) := dc_46 (by decide +kernel)
theorem dl_1286 : decode code 1286 = .ok (.aload_n 0, 1) := dc_42 (by decide +kernel)
theorem dl_1287 : decode code 1287 = .ok (.iload_n 3, 1) := dc_29 (by decide +kernel)
theorem dl_1288 : decode code 1288 = .ok (.iconst 4, 1) := dc_7 (by decide +kernel)
theorem dl_1289 : decode code 1289 = .ok (.iadd, 1) := dc_96 (by decide +kernel)
theorem dl_1290 : decode code 1290 = .ok (.iaload, 1) := dc_46 (by decide +kernel)
theorem dl_1291 : decode code 1291 = .ok (.invokevirtual 157, 3) := dc_182 (a := 0) (b := 157) (by decide +kernel) rfl
theorem dl_1294 : decode code 1294 = .ok (.pop, 1) := dc_87 (by decide +kernel)
theorem dl_1295 : decode code 1295 = .ok (.aload_n 2, 1) := dc_44 (by decide +kernel)
theorem dl_1296 : decode code 1296 = .ok (.aload_n 0, 1) := dc_42 (by decide +kernel)
theorem dl_1297 : decode code 1297 = .ok (.iload_n 3, 1) := dc_29 (by decide +kernel)
theorem dl_1298 : decode code 1298 = .ok (.iconst 1, 1) := dc_4 (by decide +kernel)
theorem dl_1299 : decode code 1299 = .ok (.iadd, 1) := dc_96 (by decide +kernel)
theorem dl_1300 : decode code 1300 = .ok (.iaload, 1) := dc_46 (by decide +kernel)
theorem dl_1301 : decode code 1301 = .ok (.aload_n 0, 1) := dc_42 (by decide +kernel)
theorem dl_1302 : decode code 1302 = .ok (.iload_n 3, 1) := dc_29 (by decide +kernel)
theorem dl_1303 : decode code 1303 = .ok (.iconst 2, 1) := dc_5 (by decide +kernel)
theorem dl_1304 : decode code 1304 = .ok (.iadd, 1) := dc_96 (by decide +kernel)
theorem dl_1305 : decode code 1305 = .ok (.iaload, 1) := dc_46 (by decide +kernel)
theorem dl_1306 : decode code 1306 = .ok (.aload_n 0, 1) := dc_42 (by decide +kernel)
theorem dl_1307 : decode code 1307 = .ok (.iload_n 3, 1) := dc_29 (by decide +kernel)
theorem dl_1308 : decode code 1308 = .ok (.iconst 3, 1) := dc_6 (by decide +kernel)
theorem dl_1309 : decode code 1309 = .ok (.iadd, 1) := dc_96 (by decide +kernel)
theorem dl_1310 : decode code 1310 = .ok (.iaload, 1) := dc_46 (by decide +kernel)
theorem dl_1311 : decode code 1311 = .ok (.aload_n 0, 1) := dc_42 (by decide +kernel)
theorem dl_1312 : decode code 1312 = .ok (.iload_n 3, 1) := dc_29 (by decide +kernel)
theorem dl_1313 : decode code 1313 = .ok (.iconst 4, 1) := dc_7 (by decide +kernel)
theorem dl_1314 : decode code 1314 = .ok (.iadd, 1) := dc_96 (by decide +kernel)
theorem dl_1315 : decode code 1315 = .ok (.iaload, 1) := dc_46 (by decide +kernel)
theorem dl_1316 : decode code 1316 = .ok (.invokevirtual 160, 3) := dc_182 (a := 0) (b := 160) (by decide +kernel) rfl
theorem dl_1319 : decode code 1319 = .ok (.pop, 1) := dc_87 (by decide +kernel)
theorem dl_1320 : decode code 1320 = .ok (.goto 39, 3) := dc_167 (a := 0) (b := 39) (by decide +kernel) rfl
theorem dl_1323 : decode code 1323 = .ok (.aload_n 1, 1) := dc_43 (by decide +kernel)
theorem dl_1324 : decode code 1324 = .ok (.invokevirtual 161, 3) := dc_182 (a := 0) (b := 161) (by decide +kernel) rfl
theorem dl_1327 : decode code 1327 = .ok (.pop, 1) := dc_87 (by decide +kernel)
theorem dl_1328 : decode code 1328 = .ok (.aload_n 2, 1) := dc_44 (by decide +kernel)
theorem dl_1329 : decode code 1329 = .ok (.invokevirtual 164, 3) := dc_182 (a := 0) (b := 164) (by decide +kernel) rfl
theorem dl_1332 : decode code 1332 = .ok (.pop, 1) := dc_87 (by decide +kernel)
theorem dl_1333 : decode code 1333 = .ok (.goto 26, 3) := dc_167 (a := 0) (b := 26) (by decide +kernel) rfl
theorem dl_1336 : decode code 1336 = .ok (.aload_n 1, 1) := dc_43 (by decide +kernel)
theorem dl_1337 : decode code 1337 = .ok (.aload_n 0, 1) := dc_42 (by decide +kernel)
theorem dl_1338 : decode code 1338 = .ok (.iload_n 3, 1) := dc_29 (by decide +kernel)
theorem dl_1339 : decode code 1339 = .ok (.iconst 1, 1) := dc_4 (by decide +kernel)
theorem dl_1340 : decode code 1340 = .ok (.iadd, 1) := dc_96 (by decide +kernel)
theorem dl_1341 : decode code 1341 = .ok (.iaload, 1) := dc_46 (by decide +kernel)
theorem dl_1342 : decode code 1342 = .ok (.invokevirtual 165, 3) := dc_182 (a := 0) (b := 165) (by decide +kernel) rfl
theorem dl_1345 : decode code 1345 = .ok (.pop, 1) := dc_87 (by decide +kernel)
theorem dl_1346 : decode code 1346 = .ok (.aload_n 2, 1) := dc_44 (by decide +kernel)
theorem dl_1347 : decode code 1347 = .ok (.aload_n 0, 1) := dc_42 (by decide +kernel)
theorem dl_1348 : decode code 1348 = .ok (.iload_n 3, 1) := dc_29 (by decide +kernel)
theorem dl_1349 : decode code 1349 = .ok (.iconst 1, 1) := dc_4 (by decide +kernel)
theorem dl_1350 : decode code 1350 = .ok (.iadd, 1) := dc_96 (by decide +kernel)
theorem dl_1351 : decode code 1351 = .ok (.iaload, 1) := dc_46 (by decide +kernel)
theorem dl_1352 : decode code 1352 = .ok (.invokevirtual 168, 3) := dc_182 (a := 0) (b := 168) (by decide +kernel) rfl
theorem dl_1355 : decode code 1355 = .ok (.pop, 1) := dc_87 (by decide +kernel)
theorem dl_1356 : decode code 1356 = .ok (.goto 3, 3) := dc_167 (a := 0) (b := 3) (by decide +kernel) rfl
theorem dl_1359 : decode code 1359 = .ok (.iinc 3 5, 3) := dc_132 (a := 3) (b := 5) (by decide +kernel) rfl
theorem dl_1362 : decode code 1362 = .ok (.goto (-1344), 3) := dc_167 (a := 250) (b := 192) (by decide +kernel) rfl
theorem dl_1365 : decode code 1365 = .ok (.iconst 1, 1) := dc_4 (by decide +kernel)
theorem dl_1366 : decode code 1366 = .ok (.ireturn, 1) := dc_172 (by decide +kernel)
end
