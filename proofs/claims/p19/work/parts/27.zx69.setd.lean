def S_Mod_wetA : List (Nat × Option Nat) := [(117, none)]
abbrev q_Mod_wetA (h : Hp) (c : Int32) (cZ : Int) (v : Int32) (vZ : Int) (w : Int32) (wZ : Int) (g : Int32) (gZ : Int) : Option Value → Hp → Prop := pInt (fun r h' => Inv h' ∧ fr S_Mod_wetA h h' ∧ (nA h h'))
set_option maxRecDepth 100000 in
theorem c_Mod_wetA (h : Hp) (hI : Inv h) (c : Int32) (cZ : Int) (cE : c.toInt = cZ) (v : Int32) (vZ : Int) (vE : v.toInt = vZ) (w : Int32) (wZ : Int) (wE : w.toInt = wZ) (wK : h.1 116 2 = w) (g : Int32) (gZ : Int) (gE : g.toInt = gZ) (gK : h.1 116 3 = g) : Ct y_Mod_wet b_Mod_wet 3 (some .int) 2 46 [.ref 116, .int c, .int v] h (q_Mod_wetA h c cZ v vZ w wZ g gZ) := by
  refine ct_ow R_Mod [some (.ref 116), some (.int c), some (.int v)] rfl (by decide) rfl (Nat.le_of_ble_eq_true rfl) ?_
  have f0 : fr S_Mod_wetA h h := fr_rf
  have g1 : 2 ≤ wZ ∧ wZ ≤ 4 := inv_at hI wE wK.symm rfl
  have g2 : 2 ≤ gZ ∧ gZ ≤ 4 := inv_at hI gE gK.symm rfl
  refine V_aload_n 0 d_Mod_wet_0 rfl rfl ?_
  refine V_iload_n 1 d_Mod_wet_1 rfl rfl ?_
  refine N_callVI [.int c] [] cv_Mod_200 sk_116 rfl d_Mod_wet_2 rfl (Nat.le_of_ble_eq_true rfl) (by decide) (by decide) (c_Mod_isCellX h hI c cZ cE w wZ wE wK g gZ gE gK) (fun z3 h4 z3Z z3E p5 => ?_)
  obtain ⟨eh4, p5⟩ := p5
  subst eh4
  refine V_if_eq 20 z3E d_Mod_wet_5 (by decide) (fun c6 => ?_) (fun c6 => ?_)
  ·
    refine V_iconst (-1) d_Mod_wet_20 (by decide) ?_
    exact V_iret rfl d_Mod_wet_21 ⟨(-1), rfl, ⟨hI, f0, nA_rf⟩⟩
  ·
    refine V_iload_n 2 d_Mod_wet_8 rfl rfl ?_
    refine V_i2l d_Mod_wet_9 (fun z7 z7e z7E => ?_)
    have z7F : z7.toInt = vZ := z7E.trans vE
    refine V_lconst 0 d_Mod_wet_10 (by decide) ?_
    refine V_ldc2 d_Mod_wet_11 wl_Mod_208 ?_
    refine N_callSI [.long z7, .long 0, .long 9] [] cs_Mod_95 d_Mod_wet_14 rfl (Nat.le_of_ble_eq_true rfl) (by decide) (by decide) (c_Mod_in h z7 vZ z7F 0 0 tl_0 9 9 tl_9) (fun z8 h9 z8Z z8E p10 => ?_)
    obtain ⟨eh9, p10⟩ := p10
    subst eh9
    refine V_if_ne 22 z8E d_Mod_wet_17 (by decide) (fun c11 => ?_) (fun c11 => ?_)
    ·
      refine V_aload_n 0 d_Mod_wet_22 rfl rfl ?_
      refine V_getR fa_Mod_7 sk_116 rfl d_Mod_wet_23 ?_
      refine V_bipush 64 d_Mod_wet_26 (by decide) ?_
      refine V_iload_n 1 d_Mod_wet_28 rfl rfl ?_
      refine V_iadd tc_64 cE (by omega) d_Mod_wet_29 (fun z12 z12e z12E => ?_)
      refine N_iald sk_117 z12E (by omega) d_Mod_wet_30 (fun z13 z13Z z13E z13e => ?_)
      refine V_if_le 39 z13E d_Mod_wet_31 (by decide) (fun c14 => ?_) (fun c14 => ?_)
      ·
        refine V_aload_n 0 d_Mod_wet_39 rfl rfl ?_
        refine V_iconst 0 d_Mod_wet_40 (by decide) ?_
        refine V_iload_n 1 d_Mod_wet_41 rfl rfl ?_
        refine V_iadd tc_0 cE (by omega) d_Mod_wet_42 (fun z15 z15e z15E => ?_)
        refine V_iload_n 2 d_Mod_wet_43 rfl rfl ?_
        refine N_callVI [.int z15, .int v] [] cv_Mod_210 sk_116 rfl d_Mod_wet_44 rfl (Nat.le_of_ble_eq_true rfl) (by decide) (by decide) (c_Mod_becomesX h hI z15 ((0 + cZ)) z15E v vZ vE (by omega) (stOk_lo vE (by omega))) (fun z16 h17 z16Z z16E p18 => ?_)
        obtain ⟨hI19, fh17, p18⟩ := p18
        have f20 : fr S_Mod_wetA h h17 := fr_call f0 fh17 rfl
        exact V_iret rfl d_Mod_wet_47 ⟨z16, rfl, ⟨hI19, f20, (nA_s nA_rf p18.1 (by omega))⟩⟩
      ·
        refine V_bipush (-2) d_Mod_wet_34 (by decide) ?_
        refine V_goto 47 d_Mod_wet_36 (by decide) ?_
        exact V_iret rfl d_Mod_wet_47 ⟨(-2), rfl, ⟨hI, f0, nA_rf⟩⟩
    ·
      refine V_iconst (-1) d_Mod_wet_20 (by decide) ?_
      exact V_iret rfl d_Mod_wet_21 ⟨(-1), rfl, ⟨hI, f0, nA_rf⟩⟩
def S_Mod_fundA : List (Nat × Option Nat) := [(117, none)]
abbrev q_Mod_fundA (h : Hp) (o : Int32) (oZ : Int) (v : Int32) (vZ : Int) : Option Value → Hp → Prop := pInt (fun r h' => Inv h' ∧ fr S_Mod_fundA h h' ∧ (nA h h'))
set_option maxRecDepth 100000 in
theorem c_Mod_fundA (h : Hp) (hI : Inv h) (o : Int32) (oZ : Int) (oE : o.toInt = oZ) (v : Int32) (vZ : Int) (vE : v.toInt = vZ) : Ct y_Mod_fund b_Mod_fund 3 (some .int) 2 45 [.ref 116, .int o, .int v] h (q_Mod_fundA h o oZ v vZ) := by
  refine ct_ow R_Mod [some (.ref 116), some (.int o), some (.int v)] rfl (by decide) rfl (Nat.le_of_ble_eq_true rfl) ?_
  have f0 : fr S_Mod_fundA h h := fr_rf
  refine V_iload_n 1 d_Mod_fund_0 rfl rfl ?_
  refine N_callSI [.int o] [] cs_Mod_205 d_Mod_fund_1 rfl (Nat.le_of_ble_eq_true rfl) (by decide) (by decide) (c_Mod_isOwner h o oZ oE) (fun z1 h2 z1Z z1E p3 => ?_)
  obtain ⟨eh2, p3⟩ := p3
  subst eh2
  refine V_if_eq 31 z1E d_Mod_fund_4 (by decide) (fun c4 => ?_) (fun c4 => ?_)
  ·
    refine V_iconst (-1) d_Mod_fund_31 (by decide) ?_
    exact V_iret rfl d_Mod_fund_32 ⟨(-1), rfl, ⟨hI, f0, nA_rf⟩⟩
  ·
    refine V_iload_n 2 d_Mod_fund_7 rfl rfl ?_
    refine V_i2l d_Mod_fund_8 (fun z5 z5e z5E => ?_)
    have z5F : z5.toInt = vZ := z5E.trans vE
    refine V_lconst 0 d_Mod_fund_9 (by decide) ?_
    refine V_ldc2 d_Mod_fund_10 wl_Mod_215 ?_
    refine N_callSI [.long z5, .long 0, .long 999] [] cs_Mod_95 d_Mod_fund_13 rfl (Nat.le_of_ble_eq_true rfl) (by decide) (by decide) (c_Mod_in h z5 vZ z5F 0 0 tl_0 999 999 tl_999) (fun z6 h7 z6Z z6E p8 => ?_)
    obtain ⟨eh7, p8⟩ := p8
    subst eh7
    refine V_if_eq 31 z6E d_Mod_fund_16 (by decide) (fun c9 => ?_) (fun c9 => ?_)
    ·
      refine V_iconst (-1) d_Mod_fund_31 (by decide) ?_
      exact V_iret rfl d_Mod_fund_32 ⟨(-1), rfl, ⟨hI, f0, nA_rf⟩⟩
    ·
      refine V_aload_n 0 d_Mod_fund_19 rfl rfl ?_
      refine V_bipush 80 d_Mod_fund_20 (by decide) ?_
      refine V_iload_n 1 d_Mod_fund_22 rfl rfl ?_
      refine V_iadd tc_80 oE (by omega) d_Mod_fund_23 (fun z10 z10e z10E => ?_)
      refine V_iload_n 2 d_Mod_fund_24 rfl rfl ?_
      refine N_callVI [.int z10, .int v] [] cv_Mod_210 sk_116 rfl d_Mod_fund_25 rfl (Nat.le_of_ble_eq_true rfl) (by decide) (by decide) (c_Mod_becomesX h hI z10 ((80 + oZ)) z10E v vZ vE (by omega) (stOk_lo vE (by omega))) (fun z11 h12 z11Z z11E p13 => ?_)
      obtain ⟨hI14, fh12, p13⟩ := p13
      have f15 : fr S_Mod_fundA h h12 := fr_call f0 fh12 rfl
      refine V_goto 32 d_Mod_fund_28 (by decide) ?_
      exact V_iret rfl d_Mod_fund_32 ⟨z11, rfl, ⟨hI14, f15, (nA_s nA_rf p13.1 (by omega))⟩⟩
def S_Mod_rainA : List (Nat × Option Nat) := [(117, none)]
abbrev q_Mod_rainA (h : Hp) (v : Int32) (vZ : Int) (w : Int32) (wZ : Int) (g : Int32) (gZ : Int) : Option Value → Hp → Prop := pInt (fun r h' => Inv h' ∧ fr S_Mod_rainA h h' ∧ (nA h h'))
set_option maxRecDepth 100000 in
theorem c_Mod_rainA (h : Hp) (hI : Inv h) (v : Int32) (vZ : Int) (vE : v.toInt = vZ) (w : Int32) (wZ : Int) (wE : w.toInt = wZ) (wK : h.1 116 2 = w) (g : Int32) (gZ : Int) (gE : g.toInt = gZ) (gK : h.1 116 3 = g) : Ct y_Mod_rain b_Mod_rain 4 (some .int) 3 64 [.ref 116, .int v] h (q_Mod_rainA h v vZ w wZ g gZ) := by
  refine ct_ow R_Mod [some (.ref 116), some (.int v), none, none] rfl (by decide) rfl (Nat.le_of_ble_eq_true rfl) ?_
  have f0 : fr S_Mod_rainA h h := fr_rf
  have g1 : 2 ≤ wZ ∧ wZ ≤ 4 := inv_at hI wE wK.symm rfl
  have g2 : 2 ≤ gZ ∧ gZ ≤ 4 := inv_at hI gE gK.symm rfl
  refine V_iload_n 1 d_Mod_rain_0 rfl rfl ?_
  refine V_i2l d_Mod_rain_1 (fun z3 z3e z3E => ?_)
  have z3F : z3.toInt = vZ := z3E.trans vE
  refine V_lconst 0 d_Mod_rain_2 (by decide) ?_
  refine V_ldc2 d_Mod_rain_3 wl_Mod_221 ?_
  refine N_callSI [.long z3, .long 0, .long 8] [] cs_Mod_95 d_Mod_rain_6 rfl (Nat.le_of_ble_eq_true rfl) (by decide) (by decide) (c_Mod_in h z3 vZ z3F 0 0 tl_0 8 8 tl_8) (fun z4 h5 z4Z z4E p6 => ?_)
  obtain ⟨eh5, p6⟩ := p6
  subst eh5
  refine V_if_ne 14 z4E d_Mod_rain_9 (by decide) (fun c7 => ?_) (fun c7 => ?_)
  ·
    refine V_iconst 0 d_Mod_rain_14 (by decide) ?_
    refine V_istore_n 2 [some (.ref 116), some (.int v), some (.int 0), none] d_Mod_rain_15 rfl (by decide) rfl rfl ?_
    have L8 : ∀ (nn : Nat) (v10 : Int32) (v10Z : Int) (h11 : Hp), v10.toInt = v10Z → Inv h11 → fr S_Mod_rainA h h11 → h11.1 116 2 = w → h11.1 116 3 = g → 0 ≤ v10Z ∧ v10Z ≤ 16 → nA h h11 → 16 - v10Z < (nn : Int) → V R_Mod b_Mod_rain 4 (some .int) 3 64 (q_Mod_rainA h v vZ w wZ g gZ) h11 16 [some (.ref 116), some (.int v), some (.int v10), none] [] := by
      intro nn
      induction nn with
      | zero => intro v10 v10Z h11 v10E Ih11 Fh11 K12 K13 q14 q15 hm16; exact absurd hm16 (by omega)
      | succ nn ihL8 =>
        intro v10 v10Z h11 v10E Ih11 Fh11 K12 K13 q14 q15 hm16
        refine V_iload_n 2 d_Mod_rain_16 rfl rfl ?_
        refine V_aload_n 0 d_Mod_rain_17 rfl rfl ?_
        refine N_callVI [] [.int v10] cv_Mod_183 sk_116 rfl d_Mod_rain_18 rfl (Nat.le_of_ble_eq_true rfl) (by decide) (by decide) (c_Mod_cellMany h11 Ih11 w wZ wE K12 g gZ gE K13) (fun z17 h18 z17Z z17E p19 => ?_)
        obtain ⟨eh18, p19⟩ := p19
        subst eh18
        refine V_icmp_ge 69 v10E z17E d_Mod_rain_21 (by decide) (fun c20 => ?_) (fun c20 => ?_)
        ·
          refine V_aload_n 0 d_Mod_rain_69 rfl rfl ?_
          refine N_callVI [] [] cv_Mod_223 sk_116 rfl d_Mod_rain_70 rfl (Nat.le_of_ble_eq_true rfl) (by decide) (by decide) (c_Mod_wells h11 Ih11 w wZ wE K12 g gZ gE K13) (fun z21 h22 z21Z z21E p23 => ?_)
          subst p23
          exact V_iret rfl d_Mod_rain_73 ⟨z21, rfl, ⟨Ih11, Fh11, (by assumption)⟩⟩
        ·
          refine V_aload_n 0 d_Mod_rain_24 rfl rfl ?_
          refine V_getR fa_Mod_7 sk_116 rfl d_Mod_rain_25 ?_
          refine V_iconst 0 d_Mod_rain_28 (by decide) ?_
          refine V_iload_n 2 d_Mod_rain_29 rfl rfl ?_
          refine V_iadd tc_0 v10E (by omega) d_Mod_rain_30 (fun z24 z24e z24E => ?_)
          refine N_iald sk_117 z24E (by omega) d_Mod_rain_31 (fun z25 z25Z z25E z25e => ?_)
          refine V_istore_n 3 [some (.ref 116), some (.int v), some (.int v10), some (.int z25)] d_Mod_rain_32 rfl (by decide) rfl rfl ?_
          refine V_aload_n 0 d_Mod_rain_33 rfl rfl ?_
          refine V_getR fa_Mod_7 sk_116 rfl d_Mod_rain_34 ?_
          refine V_iconst 0 d_Mod_rain_37 (by decide) ?_
          refine V_iload_n 2 d_Mod_rain_38 rfl rfl ?_
          refine V_iadd tc_0 v10E (by omega) d_Mod_rain_39 (fun z26 z26e z26E => ?_)
          refine V_iload_n 3 d_Mod_rain_40 rfl rfl ?_
          refine V_if_ne 48 z25E d_Mod_rain_41 (by decide) (fun c27 => ?_) (fun c27 => ?_)
          ·
            refine V_iload_n 3 d_Mod_rain_48 rfl rfl ?_
            refine V_iload_n 1 d_Mod_rain_49 rfl rfl ?_
            refine N_isubw d_Mod_rain_50 (fun z28 z28Z z28E z28e => ?_)
            refine V_iconst 1 d_Mod_rain_51 (by decide) ?_
            refine V_icmp_ge 59 z28E tc_1 d_Mod_rain_52 (by decide) (fun c29 => ?_) (fun c29 => ?_)
            ·
              refine V_iload_n 3 d_Mod_rain_59 rfl rfl ?_
              refine V_iload_n 1 d_Mod_rain_60 rfl rfl ?_
              refine N_isubw d_Mod_rain_61 (fun z30 z30Z z30E z30e => ?_)
              refine N_iast sk_117 z26E (by omega) d_Mod_rain_62 (fun h31 eh31 => ?_)
              have hI32 : Inv h31 := inv_full Ih11 eh31 (st_lo (by omega))
              have f33 : fr S_Mod_rainA h h31 := fr_put Fh11 eh31 rfl
              obtain ⟨z34, z34E, z34e⟩ : ∃ y : Int32, y.toInt = v10Z + 1 ∧ y = v10 + Int32.ofInt 1 := ⟨_, ti_add v10E (by decide) (by omega), rfl⟩
              refine V_iinc 2 [some (.ref 116), some (.int v), some (.int z34), some (.int z25)] d_Mod_rain_63 rfl z34e.symm (by decide) rfl rfl ?_
              refine V_goto 16 d_Mod_rain_66 (by decide) ?_
              refine V_drop 3 [some (.ref 116), some (.int v), some (.int z34), none] rfl ?_
              exact ihL8 z34 ((v10Z + 1)) h31 z34E hI32 f33 (kn_ne eh31 K12 (by decide)) (kn_ne eh31 K13 (by decide)) (by omega) (nA_s (by assumption) eh31 (by omega)) (by omega)
            ·
              refine V_iconst 1 d_Mod_rain_55 (by decide) ?_
              refine V_goto 62 d_Mod_rain_56 (by decide) ?_
              refine N_iast sk_117 z26E (by omega) d_Mod_rain_62 (fun h35 eh35 => ?_)
              have hI36 : Inv h35 := inv_full Ih11 eh35 (st_lo (by omega))
              have f37 : fr S_Mod_rainA h h35 := fr_put Fh11 eh35 rfl
              obtain ⟨z38, z38E, z38e⟩ : ∃ y : Int32, y.toInt = v10Z + 1 ∧ y = v10 + Int32.ofInt 1 := ⟨_, ti_add v10E (by decide) (by omega), rfl⟩
              refine V_iinc 2 [some (.ref 116), some (.int v), some (.int z38), some (.int z25)] d_Mod_rain_63 rfl z38e.symm (by decide) rfl rfl ?_
              refine V_goto 16 d_Mod_rain_66 (by decide) ?_
              refine V_drop 3 [some (.ref 116), some (.int v), some (.int z38), none] rfl ?_
              exact ihL8 z38 ((v10Z + 1)) h35 z38E hI36 f37 (kn_ne eh35 K12 (by decide)) (kn_ne eh35 K13 (by decide)) (by omega) (nA_s (by assumption) eh35 (by omega)) (by omega)
          ·
            refine V_iconst 0 d_Mod_rain_44 (by decide) ?_
            refine V_goto 62 d_Mod_rain_45 (by decide) ?_
            refine N_iast sk_117 z26E (by omega) d_Mod_rain_62 (fun h39 eh39 => ?_)
            have hI40 : Inv h39 := inv_full Ih11 eh39 (st_lo (by omega))
            have f41 : fr S_Mod_rainA h h39 := fr_put Fh11 eh39 rfl
            obtain ⟨z42, z42E, z42e⟩ : ∃ y : Int32, y.toInt = v10Z + 1 ∧ y = v10 + Int32.ofInt 1 := ⟨_, ti_add v10E (by decide) (by omega), rfl⟩
            refine V_iinc 2 [some (.ref 116), some (.int v), some (.int z42), some (.int z25)] d_Mod_rain_63 rfl z42e.symm (by decide) rfl rfl ?_
            refine V_goto 16 d_Mod_rain_66 (by decide) ?_
            refine V_drop 3 [some (.ref 116), some (.int v), some (.int z42), none] rfl ?_
            exact ihL8 z42 ((v10Z + 1)) h39 z42E hI40 f41 (kn_ne eh39 K12 (by decide)) (kn_ne eh39 K13 (by decide)) (by omega) (nA_s (by assumption) eh39 (by omega)) (by omega)
    exact L8 (Int.toNat ((16 - 0 : Int) + 1)) 0 0 h tc_0 hI f0 wK gK (by omega) nA_rf (by omega)
  ·
    refine V_iconst (-1) d_Mod_rain_12 (by decide) ?_
    exact V_iret rfl d_Mod_rain_13 ⟨(-1), rfl, ⟨hI, f0, nA_rf⟩⟩
def S_Mod_boreA : List (Nat × Option Nat) := [(117, none)]
abbrev q_Mod_boreA (h : Hp) (o : Int32) (oZ : Int) (c : Int32) (cZ : Int) (d : Int32) (dZ : Int) (w : Int32) (wZ : Int) (g : Int32) (gZ : Int) : Option Value → Hp → Prop := pInt (fun r h' => Inv h' ∧ fr S_Mod_boreA h h' ∧ (nA h h'))
set_option maxRecDepth 100000 in
theorem c_Mod_boreA (h : Hp) (hI : Inv h) (o : Int32) (oZ : Int) (oE : o.toInt = oZ) (c : Int32) (cZ : Int) (cE : c.toInt = cZ) (d : Int32) (dZ : Int) (dE : d.toInt = dZ) (w : Int32) (wZ : Int) (wE : w.toInt = wZ) (wK : h.1 116 2 = w) (g : Int32) (gZ : Int) (gE : g.toInt = gZ) (gK : h.1 116 3 = g) : Ct y_Mod_bore b_Mod_bore 9 (some .int) 2 46 [.ref 116, .int o, .int c, .int d] h (q_Mod_boreA h o oZ c cZ d dZ w wZ g gZ) := by
  refine ct_ow R_Mod [some (.ref 116), some (.int o), some (.int c), some (.int d), none, none, none, none, none] rfl (by decide) rfl (Nat.le_of_ble_eq_true rfl) ?_
  have f0 : fr S_Mod_boreA h h := fr_rf
  have g1 : 2 ≤ wZ ∧ wZ ≤ 4 := inv_at hI wE wK.symm rfl
  have g2 : 2 ≤ gZ ∧ gZ ≤ 4 := inv_at hI gE gK.symm rfl
  refine V_iload_n 1 d_Mod_bore_0 rfl rfl ?_
  refine N_callSI [.int o] [] cs_Mod_205 d_Mod_bore_1 rfl (Nat.le_of_ble_eq_true rfl) (by decide) (by decide) (c_Mod_isOwner h o oZ oE) (fun z3 h4 z3Z z3E p5 => ?_)
  obtain ⟨eh4, p5⟩ := p5
  subst eh4
  refine V_if_eq 27 z3E d_Mod_bore_4 (by decide) (fun c6 => ?_) (fun c6 => ?_)
  ·
    refine V_iconst (-1) d_Mod_bore_27 (by decide) ?_
    exact V_iret rfl d_Mod_bore_28 ⟨(-1), rfl, ⟨hI, f0, nA_rf⟩⟩
  ·
    refine V_aload_n 0 d_Mod_bore_7 rfl rfl ?_
    refine V_iload_n 2 d_Mod_bore_8 rfl rfl ?_
    refine N_callVI [.int c] [] cv_Mod_200 sk_116 rfl d_Mod_bore_9 rfl (Nat.le_of_ble_eq_true rfl) (by decide) (by decide) (c_Mod_isCellX h hI c cZ cE w wZ wE wK g gZ gE gK) (fun z7 h8 z7Z z7E p9 => ?_)
    obtain ⟨eh8, p9⟩ := p9
    subst eh8
    refine V_if_eq 27 z7E d_Mod_bore_12 (by decide) (fun c10 => ?_) (fun c10 => ?_)
    ·
      refine V_iconst (-1) d_Mod_bore_27 (by decide) ?_
      exact V_iret rfl d_Mod_bore_28 ⟨(-1), rfl, ⟨hI, f0, nA_rf⟩⟩
    ·
      refine V_iload_n 3 d_Mod_bore_15 rfl rfl ?_
      refine V_i2l d_Mod_bore_16 (fun z11 z11e z11E => ?_)
      have z11F : z11.toInt = dZ := z11E.trans dE
      refine V_lconst 1 d_Mod_bore_17 (by decide) ?_
      refine V_ldc2 d_Mod_bore_18 wl_Mod_208 ?_
      refine N_callSI [.long z11, .long 1, .long 9] [] cs_Mod_95 d_Mod_bore_21 rfl (Nat.le_of_ble_eq_true rfl) (by decide) (by decide) (c_Mod_in h z11 dZ z11F 1 1 tl_1 9 9 tl_9) (fun z12 h13 z12Z z12E p14 => ?_)
      obtain ⟨eh13, p14⟩ := p14
      subst eh13
      refine V_if_ne 29 z12E d_Mod_bore_24 (by decide) (fun c15 => ?_) (fun c15 => ?_)
      ·
        have J16 : ∀ (v18 : Int32) (v18Z : Int), v18.toInt = v18Z → V R_Mod b_Mod_bore 9 (some .int) 2 46 (q_Mod_boreA h o oZ c cZ d dZ w wZ g gZ) h 59 [some (.ref 116), some (.int o), some (.int c), some (.int d), some (.int v18), none, none, none, none] [] := by
          intro v18 v18Z v18E
          refine V_aload_n 0 d_Mod_bore_59 rfl rfl ?_
          refine V_getR fa_Mod_7 sk_116 rfl d_Mod_bore_60 ?_
          refine V_bipush 64 d_Mod_bore_63 (by decide) ?_
          refine V_iload_n 2 d_Mod_bore_65 rfl rfl ?_
          refine V_iadd tc_64 cE (by omega) d_Mod_bore_66 (fun z19 z19e z19E => ?_)
          refine N_iald sk_117 z19E (by omega) d_Mod_bore_67 (fun z20 z20Z z20E z20e => ?_)
          refine V_iload d_Mod_bore_68 rfl ?_
          refine N_iaddw d_Mod_bore_70 (fun z21 z21Z z21E z21e => ?_)
          refine V_istore 5 [some (.ref 116), some (.int o), some (.int c), some (.int d), some (.int v18), some (.int z21), none, none, none] d_Mod_bore_71 (by decide) rfl rfl ?_
          refine V_aload_n 0 d_Mod_bore_73 rfl rfl ?_
          refine V_getR fa_Mod_7 sk_116 rfl d_Mod_bore_74 ?_
          refine V_bipush 80 d_Mod_bore_77 (by decide) ?_
          refine V_iload_n 1 d_Mod_bore_79 rfl rfl ?_
          refine V_iadd tc_80 oE (by omega) d_Mod_bore_80 (fun z22 z22e z22E => ?_)
          refine N_iald sk_117 z22E (by omega) d_Mod_bore_81 (fun z23 z23Z z23E z23e => ?_)
          refine V_aload_n 0 d_Mod_bore_82 rfl rfl ?_
          refine N_getI fa_Mod_87 sk_116 rfl d_Mod_bore_83 (fun z24 z24Z z24E z24e => ?_)
          refine V_iload d_Mod_bore_86 rfl ?_
          refine N_imulw d_Mod_bore_88 (fun z25 z25Z z25E z25e => ?_)
          refine N_isubw d_Mod_bore_89 (fun z26 z26Z z26E z26e => ?_)
          refine V_istore 6 [some (.ref 116), some (.int o), some (.int c), some (.int d), some (.int v18), some (.int z21), some (.int z26), none, none] d_Mod_bore_90 (by decide) rfl rfl ?_
          have J27 : ∀ (v29 : Int32) (v29Z : Int), v29.toInt = v29Z → V R_Mod b_Mod_bore 9 (some .int) 2 46 (q_Mod_boreA h o oZ c cZ d dZ w wZ g gZ) h 123 [some (.ref 116), some (.int o), some (.int c), some (.int d), some (.int v18), some (.int z21), some (.int z26), some (.int v29), none] [] := by
            intro v29 v29Z v29E
            have J30 : ∀ (v32 : Int32) (v32Z : Int), v32.toInt = v32Z → V R_Mod b_Mod_bore 9 (some .int) 2 46 (q_Mod_boreA h o oZ c cZ d dZ w wZ g gZ) h 142 [some (.ref 116), some (.int o), some (.int c), some (.int d), some (.int v18), some (.int z21), some (.int z26), some (.int v29), some (.int v32)] [] := by
              intro v32 v32Z v32E
              refine V_aload_n 0 d_Mod_bore_142 rfl rfl ?_
              refine V_getR fa_Mod_7 sk_116 rfl d_Mod_bore_143 ?_
              refine V_bipush 48 d_Mod_bore_146 (by decide) ?_
              refine V_iload_n 2 d_Mod_bore_148 rfl rfl ?_
              refine V_iadd tc_48 cE (by omega) d_Mod_bore_149 (fun z33 z33e z33E => ?_)
              refine N_iald sk_117 z33E (by omega) d_Mod_bore_150 (fun z34 z34Z z34E z34e => ?_)
              refine V_iload_n 1 d_Mod_bore_151 rfl rfl ?_
              refine V_icmp_ne 168 z34E oE d_Mod_bore_152 (by decide) (fun c35 => ?_) (fun c35 => ?_)
              ·
                refine V_bipush (-2) d_Mod_bore_168 (by decide) ?_
                exact V_iret rfl d_Mod_bore_170 ⟨(-2), rfl, ⟨hI, f0, nA_rf⟩⟩
              ·
                refine V_iload d_Mod_bore_155 rfl ?_
                refine V_if_lt 168 z26E d_Mod_bore_157 (by decide) (fun c36 => ?_) (fun c36 => ?_)
                ·
                  refine V_bipush (-2) d_Mod_bore_168 (by decide) ?_
                  exact V_iret rfl d_Mod_bore_170 ⟨(-2), rfl, ⟨hI, f0, nA_rf⟩⟩
                ·
                  refine V_iload d_Mod_bore_160 rfl ?_
                  refine V_sipush 999 d_Mod_bore_162 (by decide) ?_
                  refine V_icmp_le 171 v32E tc_999 d_Mod_bore_165 (by decide) (fun c37 => ?_) (fun c37 => ?_)
                  ·
                    refine V_aload_n 0 d_Mod_bore_171 rfl rfl ?_
                    refine V_getR fa_Mod_7 sk_116 rfl d_Mod_bore_172 ?_
                    refine V_bipush 80 d_Mod_bore_175 (by decide) ?_
                    refine V_iload_n 1 d_Mod_bore_177 rfl rfl ?_
                    refine V_iadd tc_80 oE (by omega) d_Mod_bore_178 (fun z38 z38e z38E => ?_)
                    refine V_iload d_Mod_bore_179 rfl ?_
                    refine N_iast sk_117 z38E (by omega) d_Mod_bore_181 (fun h39 eh39 => ?_)
                    have hI40 : Inv h39 := inv_full hI eh39 (st_lo (by omega))
                    have f41 : fr S_Mod_boreA h h39 := fr_put f0 eh39 rfl
                    refine V_aload_n 0 d_Mod_bore_182 rfl rfl ?_
                    refine V_getR fa_Mod_7 sk_116 rfl d_Mod_bore_183 ?_
                    refine V_bipush 64 d_Mod_bore_186 (by decide) ?_
                    refine V_iload_n 2 d_Mod_bore_188 rfl rfl ?_
                    refine V_iadd tc_64 cE (by omega) d_Mod_bore_189 (fun z42 z42e z42E => ?_)
                    refine V_iload d_Mod_bore_190 rfl ?_
                    refine N_iast sk_117 z42E (by omega) d_Mod_bore_192 (fun h43 eh43 => ?_)
                    have hI44 : Inv h43 := inv_full hI40 eh43 (st_lo (by omega))
                    have f45 : fr S_Mod_boreA h h43 := fr_put f41 eh43 rfl
                    refine V_aload_n 0 d_Mod_bore_193 rfl rfl ?_
                    refine V_iload_n 2 d_Mod_bore_194 rfl rfl ?_
                    refine N_callVI [.int c] [] cv_Mod_192 sk_116 rfl d_Mod_bore_195 rfl (Nat.le_of_ble_eq_true rfl) (by decide) (by decide) (c_Mod_isWell h43 hI44 c cZ cE (by omega)) (fun z46 h47 z46Z z46E p48 => ?_)
                    obtain ⟨eh47, p48⟩ := p48
                    subst eh47
                    refine N_callSI [.int z46] [] cs_Mod_196 d_Mod_bore_198 rfl (Nat.le_of_ble_eq_true rfl) (by decide) (by decide) (c_Mod_flag h43 z46 z46Z z46E) (fun z49 h50 z49Z z49E p51 => ?_)
                    obtain ⟨eh50, p51⟩ := p51
                    subst eh50
                    exact V_iret rfl d_Mod_bore_201 ⟨z49, rfl, ⟨hI44, f45, (nA_s (nA_s nA_rf eh39 (by omega)) eh43 (by omega))⟩⟩
                  ·
                    refine V_bipush (-2) d_Mod_bore_168 (by decide) ?_
                    exact V_iret rfl d_Mod_bore_170 ⟨(-2), rfl, ⟨hI, f0, nA_rf⟩⟩
            refine V_iload d_Mod_bore_123 rfl ?_
            refine V_if_eq 138 v29E d_Mod_bore_125 (by decide) (fun c52 => ?_) (fun c52 => ?_)
            ·
              refine V_iload d_Mod_bore_138 rfl ?_
              refine V_istore 8 [some (.ref 116), some (.int o), some (.int c), some (.int d), some (.int v18), some (.int z21), some (.int z26), some (.int v29), some (.int z26)] d_Mod_bore_140 (by decide) rfl rfl ?_
              exact J30 z26 z26Z z26E
            ·
              refine V_iload d_Mod_bore_128 rfl ?_
              refine V_aload_n 0 d_Mod_bore_130 rfl rfl ?_
              refine N_getI fa_Mod_90 sk_116 rfl d_Mod_bore_131 (fun z53 z53Z z53E z53e => ?_)
              refine N_iaddw d_Mod_bore_134 (fun z54 z54Z z54E z54e => ?_)
              refine V_goto 140 d_Mod_bore_135 (by decide) ?_
              refine V_istore 8 [some (.ref 116), some (.int o), some (.int c), some (.int d), some (.int v18), some (.int z21), some (.int z26), some (.int v29), some (.int z54)] d_Mod_bore_140 (by decide) rfl rfl ?_
              exact J30 z54 z54Z z54E
          refine V_aload_n 0 d_Mod_bore_92 rfl rfl ?_
          refine V_iload_n 2 d_Mod_bore_93 rfl rfl ?_
          refine N_callVI [.int c] [] cv_Mod_192 sk_116 rfl d_Mod_bore_94 rfl (Nat.le_of_ble_eq_true rfl) (by decide) (by decide) (c_Mod_isWell h hI c cZ cE (by omega)) (fun z55 h56 z55Z z55E p57 => ?_)
          obtain ⟨eh56, p57⟩ := p57
          subst eh56
          refine V_if_ne 120 z55E d_Mod_bore_97 (by decide) (fun c58 => ?_) (fun c58 => ?_)
          ·
            refine V_iconst 0 d_Mod_bore_120 (by decide) ?_
            refine V_istore 7 [some (.ref 116), some (.int o), some (.int c), some (.int d), some (.int v18), some (.int z21), some (.int z26), some (.int 0), none] d_Mod_bore_121 (by decide) rfl rfl ?_
            exact J27 0 0 tc_0
          ·
            refine V_aload_n 0 d_Mod_bore_100 rfl rfl ?_
            refine V_getR fa_Mod_7 sk_116 rfl d_Mod_bore_101 ?_
            refine V_iconst 0 d_Mod_bore_104 (by decide) ?_
            refine V_iload_n 2 d_Mod_bore_105 rfl rfl ?_
            refine V_iadd tc_0 cE (by omega) d_Mod_bore_106 (fun z59 z59e z59E => ?_)
            refine N_iald sk_117 z59E (by omega) d_Mod_bore_107 (fun z60 z60Z z60E z60e => ?_)
            refine V_iload d_Mod_bore_108 rfl ?_
            refine N_callSI [.int z60, .int z21] [] cs_Mod_188 d_Mod_bore_110 rfl (Nat.le_of_ble_eq_true rfl) (by decide) (by decide) (c_Mod_isWellBy h z60 z60Z z60E z21 z21Z z21E) (fun z61 h62 z61Z z61E p63 => ?_)
            obtain ⟨eh62, p63⟩ := p63
            subst eh62
            refine V_if_eq 120 z61E d_Mod_bore_113 (by decide) (fun c64 => ?_) (fun c64 => ?_)
            ·
              refine V_iconst 0 d_Mod_bore_120 (by decide) ?_
              refine V_istore 7 [some (.ref 116), some (.int o), some (.int c), some (.int d), some (.int v18), some (.int z21), some (.int z26), some (.int 0), none] d_Mod_bore_121 (by decide) rfl rfl ?_
              exact J27 0 0 tc_0
            ·
              refine V_iconst 1 d_Mod_bore_116 (by decide) ?_
              refine V_goto 121 d_Mod_bore_117 (by decide) ?_
              refine V_istore 7 [some (.ref 116), some (.int o), some (.int c), some (.int d), some (.int v18), some (.int z21), some (.int z26), some (.int 1), none] d_Mod_bore_121 (by decide) rfl rfl ?_
              exact J27 1 1 tc_1
        refine V_iload_n 3 d_Mod_bore_29 rfl rfl ?_
        refine V_aload_n 0 d_Mod_bore_30 rfl rfl ?_
        refine V_getR fa_Mod_7 sk_116 rfl d_Mod_bore_31 ?_
        refine V_bipush 64 d_Mod_bore_34 (by decide) ?_
        refine V_iload_n 2 d_Mod_bore_36 rfl rfl ?_
        refine V_iadd tc_64 cE (by omega) d_Mod_bore_37 (fun z65 z65e z65E => ?_)
        refine N_iald sk_117 z65E (by omega) d_Mod_bore_38 (fun z66 z66Z z66E z66e => ?_)
        refine V_icmp_le 56 dE z66E d_Mod_bore_39 (by decide) (fun c67 => ?_) (fun c67 => ?_)
        ·
          refine V_iconst 0 d_Mod_bore_56 (by decide) ?_
          refine V_istore 4 [some (.ref 116), some (.int o), some (.int c), some (.int d), some (.int 0), none, none, none, none] d_Mod_bore_57 (by decide) rfl rfl ?_
          exact J16 0 0 tc_0
        ·
          refine V_iload_n 3 d_Mod_bore_42 rfl rfl ?_
          refine V_aload_n 0 d_Mod_bore_43 rfl rfl ?_
          refine V_getR fa_Mod_7 sk_116 rfl d_Mod_bore_44 ?_
          refine V_bipush 64 d_Mod_bore_47 (by decide) ?_
          refine V_iload_n 2 d_Mod_bore_49 rfl rfl ?_
          refine V_iadd tc_64 cE (by omega) d_Mod_bore_50 (fun z68 z68e z68E => ?_)
          refine N_iald sk_117 z68E (by omega) d_Mod_bore_51 (fun z69 z69Z z69E z69e => ?_)
          refine N_isubw d_Mod_bore_52 (fun z70 z70Z z70E z70e => ?_)
          refine V_goto 57 d_Mod_bore_53 (by decide) ?_
          refine V_istore 4 [some (.ref 116), some (.int o), some (.int c), some (.int d), some (.int z70), none, none, none, none] d_Mod_bore_57 (by decide) rfl rfl ?_
          exact J16 z70 z70Z z70E
      ·
        refine V_iconst (-1) d_Mod_bore_27 (by decide) ?_
        exact V_iret rfl d_Mod_bore_28 ⟨(-1), rfl, ⟨hI, f0, nA_rf⟩⟩
def S_Mod_readA : List (Nat × Option Nat) := [(117, none), (131, none), (116, some 35)]
abbrev q_Mod_readA (h : Hp) (k : Int32) (kZ : Int) (l : Int32) (lZ : Int) (f : Int32) (fZ : Int) (n : Int32) (nZ : Int) (w : Int32) (wZ : Int) (g : Int32) (gZ : Int) : Option Value → Hp → Prop := pInt (fun r h' => Inv h' ∧ fr S_Mod_readA h h' ∧ (nA h h'))
set_option maxRecDepth 100000 in
theorem c_Mod_readA (h : Hp) (hI : Inv h) (k : Int32) (kZ : Int) (kE : k.toInt = kZ) (l : Int32) (lZ : Int) (lE : l.toInt = lZ) (f : Int32) (fZ : Int) (fE : f.toInt = fZ) (n : Int32) (nZ : Int) (nE : n.toInt = nZ) (w : Int32) (wZ : Int) (wE : w.toInt = wZ) (wK : h.1 116 2 = w) (g : Int32) (gZ : Int) (gE : g.toInt = gZ) (gK : h.1 116 3 = g) : Ct y_Mod_read b_Mod_read 11 (some .int) 3 74 [.ref 116, .int k, .int l, .int f, .int n] h (q_Mod_readA h k kZ l lZ f fZ n nZ w wZ g gZ) := by
  refine ct_ow R_Mod [some (.ref 116), some (.int k), some (.int l), some (.int f), some (.int n), none, none, none, none, none, none] rfl (by decide) rfl (Nat.le_of_ble_eq_true rfl) ?_
  have f0 : fr S_Mod_readA h h := fr_rf
  have g1 : 2 ≤ wZ ∧ wZ ≤ 4 := inv_at hI wE wK.symm rfl
  have g2 : 2 ≤ gZ ∧ gZ ≤ 4 := inv_at hI gE gK.symm rfl
  obtain ⟨sv, svZ, svE, svK⟩ : ∃ (y : Int32) (Y : Int), y.toInt = Y ∧ y = h.1 129 kZ.toNat := ⟨_, _, rfl, rfl⟩
  have svB : 0 ≤ svZ ∧ svZ ≤ 40 := inv_at hI svE svK rfl
  have fB := And.intro (ti_lo f) (ti_hi f)
  rw [fE] at fB
  refine V_iload_n 1 d_Mod_read_0 rfl rfl ?_
  refine V_iload_n 2 d_Mod_read_1 rfl rfl ?_
  refine N_callSI [.int k, .int l] [] cs_Mod_322 d_Mod_read_2 rfl (Nat.le_of_ble_eq_true rfl) (by decide) (by decide) (c_Mod_isSheet h k kZ kE l lZ lE) (fun z3 h4 z3Z z3E p5 => ?_)
  obtain ⟨eh4, p5⟩ := p5
  subst eh4
  refine V_if_eq 21 z3E d_Mod_read_5 (by decide) (fun c6 => ?_) (fun c6 => ?_)
  ·
    refine V_iconst (-1) d_Mod_read_21 (by decide) ?_
    exact V_iret rfl d_Mod_read_22 ⟨(-1), rfl, ⟨hI, f0, nA_rf⟩⟩
  ·
    refine V_iload d_Mod_read_8 rfl ?_
    refine V_i2l d_Mod_read_10 (fun z7 z7e z7E => ?_)
    have z7F : z7.toInt = nZ := z7E.trans nE
    refine V_lconst 0 d_Mod_read_11 (by decide) ?_
    refine V_ldc2 d_Mod_read_12 wl_Mod_275 ?_
    refine N_callSI [.long z7, .long 0, .long 13] [] cs_Mod_95 d_Mod_read_15 rfl (Nat.le_of_ble_eq_true rfl) (by decide) (by decide) (c_Mod_in h z7 nZ z7F 0 0 tl_0 13 13 tl_13) (fun z8 h9 z8Z z8E p10 => ?_)
    obtain ⟨eh9, p10⟩ := p10
    subst eh9
    refine V_if_ne 23 z8E d_Mod_read_18 (by decide) (fun c11 => ?_) (fun c11 => ?_)
    ·
      refine V_iconst 0 d_Mod_read_23 (by decide) ?_
      refine V_istore 5 [some (.ref 116), some (.int k), some (.int l), some (.int f), some (.int n), some (.int 0), none, none, none, none, none] d_Mod_read_24 (by decide) rfl rfl ?_
      have L12 : ∀ (nn : Nat) (v14 : Int32) (v14Z : Int) (h15 : Hp), v14.toInt = v14Z → Inv h15 → fr S_Mod_readA h h15 → h15.1 116 2 = w → h15.1 116 3 = g → 0 ≤ v14Z ∧ v14Z ≤ 20 → nA h h15 → 20 - v14Z < (nn : Int) → V R_Mod b_Mod_read 11 (some .int) 3 74 (q_Mod_readA h k kZ l lZ f fZ n nZ w wZ g gZ) h15 26 [some (.ref 116), some (.int k), some (.int l), some (.int f), some (.int n), some (.int v14), none, none, none, none, none] [] := by
        intro nn
        induction nn with
        | zero => intro v14 v14Z h15 v14E Ih15 Fh15 K16 K17 q18 q19 hm20; exact absurd hm20 (by omega)
        | succ nn ihL12 =>
          intro v14 v14Z h15 v14E Ih15 Fh15 K16 K17 q18 q19 hm20
          have na9 : nA h h15 := by assumption
          refine V_iload d_Mod_read_26 rfl ?_
          refine V_bipush 20 d_Mod_read_28 (by decide) ?_
          refine V_icmp_ge 56 v14E tc_20 d_Mod_read_30 (by decide) (fun c21 => ?_) (fun c21 => ?_)
          ·
            refine V_iconst 0 d_Mod_read_56 (by decide) ?_
            refine V_istore 5 [some (.ref 116), some (.int k), some (.int l), some (.int f), some (.int n), some (.int 0), none, none, none, none, none] d_Mod_read_57 (by decide) rfl rfl ?_
            refine V_iconst 0 d_Mod_read_59 (by decide) ?_
            refine V_istore 6 [some (.ref 116), some (.int k), some (.int l), some (.int f), some (.int n), some (.int 0), some (.int 0), none, none, none, none] d_Mod_read_60 (by decide) rfl rfl ?_
            refine V_iconst 0 d_Mod_read_62 (by decide) ?_
            refine V_istore 7 [some (.ref 116), some (.int k), some (.int l), some (.int f), some (.int n), some (.int 0), some (.int 0), some (.int 0), none, none, none] d_Mod_read_63 (by decide) rfl rfl ?_
            have L22 : ∀ (nn : Nat) (v24 : Int32) (v24Z : Int) (v25 : Int32) (v25Z : Int) (v26 : Int32) (v26Z : Int) (h27 : Hp), v24.toInt = v24Z → v25.toInt = v25Z → v26.toInt = v26Z → Inv h27 → fr S_Mod_readA h h27 → h27.1 116 2 = w → h27.1 116 3 = g → 0 ≤ v26Z ∧ v26Z ≤ nZ → 0 ≤ v25Z ∧ v25Z ≤ v26Z → nA h h27 → nZ - v26Z < (nn : Int) → V R_Mod b_Mod_read 11 (some .int) 3 74 (q_Mod_readA h k kZ l lZ f fZ n nZ w wZ g gZ) h27 65 [some (.ref 116), some (.int k), some (.int l), some (.int f), some (.int n), some (.int v24), some (.int v25), some (.int v26), none, none, none] [] := by
              intro nn
              induction nn with
              | zero => intro v24 v24Z v25 v25Z v26 v26Z h27 v24E v25E v26E Ih27 Fh27 K28 K29 q30 q31 q32 hm33; exact absurd hm33 (by omega)
              | succ nn ihL22 =>
                intro v24 v24Z v25 v25Z v26 v26Z h27 v24E v25E v26E Ih27 Fh27 K28 K29 q30 q31 q32 hm33
                have na9 : nA h h27 := by assumption
                refine V_iload d_Mod_read_65 rfl ?_
                refine V_iload d_Mod_read_67 rfl ?_
                refine V_icmp_ge 265 v26E nE d_Mod_read_69 (by decide) (fun c34 => ?_) (fun c34 => ?_)
                ·
                  refine V_aload_n 0 d_Mod_read_265 rfl rfl ?_
                  refine V_iload d_Mod_read_266 rfl ?_
                  refine N_putI fp_Mod_328 sk_116 rfl d_Mod_read_268 (fun h35 eh35 => ?_)
                  have hI36 : Inv h35 := inv_full Ih27 eh35 rfl
                  have f37 : fr S_Mod_readA h h35 := fr_put Fh27 eh35 rfl
                  have N38 : nA h h35 := nA_s na9 eh35 (by omega)
                  refine V_iload d_Mod_read_271 rfl ?_
                  exact V_iret rfl d_Mod_read_273 ⟨v25, rfl, ⟨hI36, f37, N38⟩⟩
                ·
                  refine V_iload d_Mod_read_72 rfl ?_
                  refine V_if_ne 265 v24E d_Mod_read_74 (by decide) (fun c39 => ?_) (fun c39 => ?_)
                  ·
                    refine V_aload_n 0 d_Mod_read_265 rfl rfl ?_
                    refine V_iload d_Mod_read_266 rfl ?_
                    refine N_putI fp_Mod_328 sk_116 rfl d_Mod_read_268 (fun h40 eh40 => ?_)
                    have hI41 : Inv h40 := inv_full Ih27 eh40 rfl
                    have f42 : fr S_Mod_readA h h40 := fr_put Fh27 eh40 rfl
                    have N43 : nA h h40 := nA_s na9 eh40 (by omega)
                    refine V_iload d_Mod_read_271 rfl ?_
                    exact V_iret rfl d_Mod_read_273 ⟨v25, rfl, ⟨hI41, f42, N43⟩⟩
                  ·
                    refine V_iconst 0 d_Mod_read_77 (by decide) ?_
                    refine V_istore 8 [some (.ref 116), some (.int k), some (.int l), some (.int f), some (.int n), some (.int v24), some (.int v25), some (.int v26), some (.int 0), none, none] d_Mod_read_78 (by decide) rfl rfl ?_
                    have L44 : ∀ (nn : Nat) (v46 : Int32) (v46Z : Int) (v47 : Int32) (v47Z : Int), v46.toInt = v46Z → v47.toInt = v47Z → 0 ≤ v47Z ∧ v47Z ≤ 3 → v46Z ≠ 0 ∨ v47Z = 0 ∨ 0 ≤ fZ + 3 * v26Z ∧ fZ + 3 * v26Z + v47Z - 1 < svZ → 3 - v47Z < (nn : Int) → V R_Mod b_Mod_read 11 (some .int) 3 74 (q_Mod_readA h k kZ l lZ f fZ n nZ w wZ g gZ) h27 80 [some (.ref 116), some (.int k), some (.int l), some (.int f), some (.int n), some (.int v46), some (.int v25), some (.int v26), some (.int v47), none, none] [] := by
                      intro nn
                      induction nn with
                      | zero => intro v46 v46Z v47 v47Z v46E v47E q48 q49 hm50; exact absurd hm50 (by omega)
                      | succ nn ihL44 =>
                        intro v46 v46Z v47 v47Z v46E v47E q48 q49 hm50
                        refine V_iload d_Mod_read_80 rfl ?_
                        refine V_iconst 3 d_Mod_read_82 (by decide) ?_
                        refine V_icmp_ge 167 v47E tc_3 d_Mod_read_83 (by decide) (fun c51 => ?_) (fun c51 => ?_)
                        ·
                          refine V_iload d_Mod_read_167 rfl ?_
                          refine V_if_ne 259 v46E d_Mod_read_169 (by decide) (fun c52 => ?_) (fun c52 => ?_)
                          ·
                            obtain ⟨z53, z53E, z53e⟩ : ∃ y : Int32, y.toInt = v26Z + 1 ∧ y = v26 + Int32.ofInt 1 := ⟨_, ti_add v26E (by decide) (by omega), rfl⟩
                            refine V_iinc 7 [some (.ref 116), some (.int k), some (.int l), some (.int f), some (.int n), some (.int v46), some (.int v25), some (.int z53), some (.int v47), none, none] d_Mod_read_259 rfl z53e.symm (by decide) rfl rfl ?_
                            refine V_goto 65 d_Mod_read_262 (by decide) ?_
                            refine V_drop 8 [some (.ref 116), some (.int k), some (.int l), some (.int f), some (.int n), some (.int v46), some (.int v25), some (.int z53), none, none, none] rfl ?_
                            exact ihL22 v46 v46Z v25 v25Z z53 ((v26Z + 1)) h27 v46E v25E z53E Ih27 Fh27 K28 K29 (by omega) (by omega) na9 (by omega)
                          ·
                            refine V_bipush 40 d_Mod_read_172 (by decide) ?_
                            refine V_iload_n 1 d_Mod_read_174 rfl rfl ?_
                            refine V_imul tc_40 kE (by omega) d_Mod_read_175 (fun z54 z54e z54E => ?_)
                            refine V_iload_n 3 d_Mod_read_176 rfl rfl ?_
                            refine V_iadd z54E fE (by omega) d_Mod_read_177 (fun z55 z55e z55E => ?_)
                            refine V_iconst 3 d_Mod_read_178 (by decide) ?_
                            refine V_iload d_Mod_read_179 rfl ?_
                            refine V_imul tc_3 v26E (by omega) d_Mod_read_181 (fun z56 z56e z56E => ?_)
                            refine V_iadd z55E z56E (by omega) d_Mod_read_182 (fun z57 z57e z57E => ?_)
                            refine V_istore 8 [some (.ref 116), some (.int k), some (.int l), some (.int f), some (.int n), some (.int v46), some (.int v25), some (.int v26), some (.int z57), none, none] d_Mod_read_183 (by decide) rfl rfl ?_
                            refine V_aload_n 0 d_Mod_read_185 rfl rfl ?_
                            refine V_aload_n 0 d_Mod_read_186 rfl rfl ?_
                            refine V_getR fa_Mod_50 sk_116 rfl d_Mod_read_187 ?_
                            refine V_iload d_Mod_read_190 rfl ?_
                            refine N_iald sk_130 z57E (by omega) d_Mod_read_192 (fun z58 z58Z z58E z58e => ?_)
                            refine V_aload_n 0 d_Mod_read_193 rfl rfl ?_
                            refine V_getR fa_Mod_50 sk_116 rfl d_Mod_read_194 ?_
                            refine V_iload d_Mod_read_197 rfl ?_
                            refine V_iconst 1 d_Mod_read_199 (by decide) ?_
                            refine V_iadd z57E tc_1 (by omega) d_Mod_read_200 (fun z59 z59e z59E => ?_)
                            refine N_iald sk_130 z59E (by omega) d_Mod_read_201 (fun z60 z60Z z60E z60e => ?_)
                            refine V_aload_n 0 d_Mod_read_202 rfl rfl ?_
                            refine V_getR fa_Mod_50 sk_116 rfl d_Mod_read_203 ?_
                            refine V_iload d_Mod_read_206 rfl ?_
                            refine V_iconst 2 d_Mod_read_208 (by decide) ?_
                            refine V_iadd z57E tc_2 (by omega) d_Mod_read_209 (fun z61 z61e z61E => ?_)
                            refine N_iald sk_130 z61E (by omega) d_Mod_read_210 (fun z62 z62Z z62E z62e => ?_)
                            refine N_callVI [.int z58, .int z60, .int z62] [] cv_Mod_325 sk_116 rfl d_Mod_read_211 rfl (Nat.le_of_ble_eq_true rfl) (by decide) (by decide) (c_Mod_boreA h27 Ih27 z58 z58Z z58E z60 z60Z z60E z62 z62Z z62E w wZ wE K28 g gZ gE K29) (fun z63 h64 z63Z z63E p65 => ?_)
                            obtain ⟨hI66, fh64, p65⟩ := p65
                            have f67 : fr S_Mod_readA h h64 := fr_call Fh27 fh64 rfl
                            have N68 : nA h h64 := nA_t na9 p65
                            refine V_if_ge 256 z63E d_Mod_read_214 (by decide) (fun c69 => ?_) (fun c69 => ?_)
                            ·
                              obtain ⟨z70, z70E, z70e⟩ : ∃ y : Int32, y.toInt = v25Z + 1 ∧ y = v25 + Int32.ofInt 1 := ⟨_, ti_add v25E (by decide) (by omega), rfl⟩
                              refine V_iinc 6 [some (.ref 116), some (.int k), some (.int l), some (.int f), some (.int n), some (.int v46), some (.int z70), some (.int v26), some (.int z57), none, none] d_Mod_read_256 rfl z70e.symm (by decide) rfl rfl ?_
                              obtain ⟨z71, z71E, z71e⟩ : ∃ y : Int32, y.toInt = v26Z + 1 ∧ y = v26 + Int32.ofInt 1 := ⟨_, ti_add v26E (by decide) (by omega), rfl⟩
                              refine V_iinc 7 [some (.ref 116), some (.int k), some (.int l), some (.int f), some (.int n), some (.int v46), some (.int z70), some (.int z71), some (.int z57), none, none] d_Mod_read_259 rfl z71e.symm (by decide) rfl rfl ?_
                              refine V_goto 65 d_Mod_read_262 (by decide) ?_
                              refine V_drop 8 [some (.ref 116), some (.int k), some (.int l), some (.int f), some (.int n), some (.int v46), some (.int z70), some (.int z71), none, none, none] rfl ?_
                              exact ihL22 v46 v46Z z70 ((v25Z + 1)) z71 ((v26Z + 1)) h64 v46E z70E z71E hI66 f67 (kn_call fh64 K28 rfl) (kn_call fh64 K29 rfl) (by omega) (by omega) N68 (by omega)
                            ·
                              refine V_iconst 0 d_Mod_read_217 (by decide) ?_
                              refine V_istore 9 [some (.ref 116), some (.int k), some (.int l), some (.int f), some (.int n), some (.int v46), some (.int v25), some (.int v26), some (.int z57), some (.int 0), none] d_Mod_read_218 (by decide) rfl rfl ?_
                              have L72 : ∀ (nn : Nat) (v74 : Int32) (v74Z : Int) (h75 : Hp), v74.toInt = v74Z → Inv h75 → fr S_Mod_readA h h75 → h75.1 116 2 = w → h75.1 116 3 = g → 0 ≤ v74Z ∧ v74Z ≤ 20 → nA h h75 → 20 - v74Z < (nn : Int) → V R_Mod b_Mod_read 11 (some .int) 3 74 (q_Mod_readA h k kZ l lZ f fZ n nZ w wZ g gZ) h75 220 [some (.ref 116), some (.int k), some (.int l), some (.int f), some (.int n), some (.int v46), some (.int v25), some (.int v26), some (.int z57), some (.int v74), none] [] := by
                                intro nn
                                induction nn with
                                | zero => intro v74 v74Z h75 v74E Ih75 Fh75 K76 K77 q78 q79 hm80; exact absurd hm80 (by omega)
                                | succ nn ihL72 =>
                                  intro v74 v74Z h75 v74E Ih75 Fh75 K76 K77 q78 q79 hm80
                                  have na9 : nA h h75 := by assumption
                                  refine V_iload d_Mod_read_220 rfl ?_
                                  refine V_bipush 20 d_Mod_read_222 (by decide) ?_
                                  refine V_icmp_ge 250 v74E tc_20 d_Mod_read_224 (by decide) (fun c81 => ?_) (fun c81 => ?_)
                                  ·
                                    refine V_bipush (-20) d_Mod_read_250 (by decide) ?_
                                    refine V_iload d_Mod_read_252 rfl ?_
                                    refine V_isub tc_m20 v26E (by omega) d_Mod_read_254 (fun z82 z82e z82E => ?_)
                                    exact V_iret rfl d_Mod_read_255 ⟨z82, rfl, ⟨Ih75, Fh75, na9⟩⟩
                                  ·
                                    refine V_aload_n 0 d_Mod_read_227 rfl rfl ?_
                                    refine V_getR fa_Mod_7 sk_116 rfl d_Mod_read_228 ?_
                                    refine V_bipush 64 d_Mod_read_231 (by decide) ?_
                                    refine V_iload d_Mod_read_233 rfl ?_
                                    refine V_iadd tc_64 v74E (by omega) d_Mod_read_235 (fun z83 z83e z83E => ?_)
                                    refine V_aload_n 0 d_Mod_read_236 rfl rfl ?_
                                    refine V_getR fa_Mod_53 sk_116 rfl d_Mod_read_237 ?_
                                    refine V_iload d_Mod_read_240 rfl ?_
                                    refine N_iald sk_131 v74E (by omega) d_Mod_read_242 (fun z84 z84Z z84E z84e => ?_)
                                    refine N_iast sk_117 z83E (by omega) d_Mod_read_243 (fun h85 eh85 => ?_)
                                    have hI86 : Inv h85 := inv_full Ih75 eh85 (st_lo (by omega))
                                    have f87 : fr S_Mod_readA h h85 := fr_put Fh75 eh85 rfl
                                    have N88 : nA h h85 := nA_s na9 eh85 (by omega)
                                    obtain ⟨z89, z89E, z89e⟩ : ∃ y : Int32, y.toInt = v74Z + 1 ∧ y = v74 + Int32.ofInt 1 := ⟨_, ti_add v74E (by decide) (by omega), rfl⟩
                                    refine V_iinc 9 [some (.ref 116), some (.int k), some (.int l), some (.int f), some (.int n), some (.int v46), some (.int v25), some (.int v26), some (.int z57), some (.int z89), none] d_Mod_read_244 rfl z89e.symm (by decide) rfl rfl ?_
                                    refine V_goto 220 d_Mod_read_247 (by decide) ?_
                                    exact ihL72 z89 ((v74Z + 1)) h85 z89E hI86 f87 (kn_ne eh85 K76 (by decide)) (kn_ne eh85 K77 (by decide)) (by omega) N88 (by omega)
                              exact L72 (Int.toNat ((20 - 0 : Int) + 1)) 0 0 h64 tc_0 hI66 f67 (kn_call fh64 K28 rfl) (kn_call fh64 K29 rfl) (by omega) N68 (by omega)
                        ·
                          refine V_iload d_Mod_read_86 rfl ?_
                          refine V_if_ne 167 v46E d_Mod_read_88 (by decide) (fun c90 => ?_) (fun c90 => ?_)
                          ·
                            refine V_iload d_Mod_read_167 rfl ?_
                            refine V_if_ne 259 v46E d_Mod_read_169 (by decide) (fun c91 => ?_) (fun c91 => ?_)
                            ·
                              obtain ⟨z92, z92E, z92e⟩ : ∃ y : Int32, y.toInt = v26Z + 1 ∧ y = v26 + Int32.ofInt 1 := ⟨_, ti_add v26E (by decide) (by omega), rfl⟩
                              refine V_iinc 7 [some (.ref 116), some (.int k), some (.int l), some (.int f), some (.int n), some (.int v46), some (.int v25), some (.int z92), some (.int v47), none, none] d_Mod_read_259 rfl z92e.symm (by decide) rfl rfl ?_
                              refine V_goto 65 d_Mod_read_262 (by decide) ?_
                              refine V_drop 8 [some (.ref 116), some (.int k), some (.int l), some (.int f), some (.int n), some (.int v46), some (.int v25), some (.int z92), none, none, none] rfl ?_
                              exact ihL22 v46 v46Z v25 v25Z z92 ((v26Z + 1)) h27 v46E v25E z92E Ih27 Fh27 K28 K29 (by omega) (by omega) na9 (by omega)
                            ·
                              refine V_bipush 40 d_Mod_read_172 (by decide) ?_
                              refine V_iload_n 1 d_Mod_read_174 rfl rfl ?_
                              refine V_imul tc_40 kE (by omega) d_Mod_read_175 (fun z93 z93e z93E => ?_)
                              refine V_iload_n 3 d_Mod_read_176 rfl rfl ?_
                              refine V_iadd z93E fE (by omega) d_Mod_read_177 (fun z94 z94e z94E => ?_)
                              refine V_iconst 3 d_Mod_read_178 (by decide) ?_
                              refine V_iload d_Mod_read_179 rfl ?_
                              refine V_imul tc_3 v26E (by omega) d_Mod_read_181 (fun z95 z95e z95E => ?_)
                              refine V_iadd z94E z95E (by omega) d_Mod_read_182 (fun z96 z96e z96E => ?_)
                              refine V_istore 8 [some (.ref 116), some (.int k), some (.int l), some (.int f), some (.int n), some (.int v46), some (.int v25), some (.int v26), some (.int z96), none, none] d_Mod_read_183 (by decide) rfl rfl ?_
                              refine V_aload_n 0 d_Mod_read_185 rfl rfl ?_
                              refine V_aload_n 0 d_Mod_read_186 rfl rfl ?_
                              refine V_getR fa_Mod_50 sk_116 rfl d_Mod_read_187 ?_
                              refine V_iload d_Mod_read_190 rfl ?_
                              refine N_iald sk_130 z96E (by omega) d_Mod_read_192 (fun z97 z97Z z97E z97e => ?_)
                              refine V_aload_n 0 d_Mod_read_193 rfl rfl ?_
                              refine V_getR fa_Mod_50 sk_116 rfl d_Mod_read_194 ?_
                              refine V_iload d_Mod_read_197 rfl ?_
                              refine V_iconst 1 d_Mod_read_199 (by decide) ?_
                              refine V_iadd z96E tc_1 (by omega) d_Mod_read_200 (fun z98 z98e z98E => ?_)
                              refine N_iald sk_130 z98E (by omega) d_Mod_read_201 (fun z99 z99Z z99E z99e => ?_)
                              refine V_aload_n 0 d_Mod_read_202 rfl rfl ?_
                              refine V_getR fa_Mod_50 sk_116 rfl d_Mod_read_203 ?_
                              refine V_iload d_Mod_read_206 rfl ?_
                              refine V_iconst 2 d_Mod_read_208 (by decide) ?_
                              refine V_iadd z96E tc_2 (by omega) d_Mod_read_209 (fun z100 z100e z100E => ?_)
                              refine N_iald sk_130 z100E (by omega) d_Mod_read_210 (fun z101 z101Z z101E z101e => ?_)
                              refine N_callVI [.int z97, .int z99, .int z101] [] cv_Mod_325 sk_116 rfl d_Mod_read_211 rfl (Nat.le_of_ble_eq_true rfl) (by decide) (by decide) (c_Mod_boreA h27 Ih27 z97 z97Z z97E z99 z99Z z99E z101 z101Z z101E w wZ wE K28 g gZ gE K29) (fun z102 h103 z102Z z102E p104 => ?_)
                              obtain ⟨hI105, fh103, p104⟩ := p104
                              have f106 : fr S_Mod_readA h h103 := fr_call Fh27 fh103 rfl
                              have N107 : nA h h103 := nA_t na9 p104
                              refine V_if_ge 256 z102E d_Mod_read_214 (by decide) (fun c108 => ?_) (fun c108 => ?_)
                              ·
                                obtain ⟨z109, z109E, z109e⟩ : ∃ y : Int32, y.toInt = v25Z + 1 ∧ y = v25 + Int32.ofInt 1 := ⟨_, ti_add v25E (by decide) (by omega), rfl⟩
                                refine V_iinc 6 [some (.ref 116), some (.int k), some (.int l), some (.int f), some (.int n), some (.int v46), some (.int z109), some (.int v26), some (.int z96), none, none] d_Mod_read_256 rfl z109e.symm (by decide) rfl rfl ?_
                                obtain ⟨z110, z110E, z110e⟩ : ∃ y : Int32, y.toInt = v26Z + 1 ∧ y = v26 + Int32.ofInt 1 := ⟨_, ti_add v26E (by decide) (by omega), rfl⟩
                                refine V_iinc 7 [some (.ref 116), some (.int k), some (.int l), some (.int f), some (.int n), some (.int v46), some (.int z109), some (.int z110), some (.int z96), none, none] d_Mod_read_259 rfl z110e.symm (by decide) rfl rfl ?_
                                refine V_goto 65 d_Mod_read_262 (by decide) ?_
                                refine V_drop 8 [some (.ref 116), some (.int k), some (.int l), some (.int f), some (.int n), some (.int v46), some (.int z109), some (.int z110), none, none, none] rfl ?_
                                exact ihL22 v46 v46Z z109 ((v25Z + 1)) z110 ((v26Z + 1)) h103 v46E z109E z110E hI105 f106 (kn_call fh103 K28 rfl) (kn_call fh103 K29 rfl) (by omega) (by omega) N107 (by omega)
                              ·
                                refine V_iconst 0 d_Mod_read_217 (by decide) ?_
                                refine V_istore 9 [some (.ref 116), some (.int k), some (.int l), some (.int f), some (.int n), some (.int v46), some (.int v25), some (.int v26), some (.int z96), some (.int 0), none] d_Mod_read_218 (by decide) rfl rfl ?_
                                have L111 : ∀ (nn : Nat) (v113 : Int32) (v113Z : Int) (h114 : Hp), v113.toInt = v113Z → Inv h114 → fr S_Mod_readA h h114 → h114.1 116 2 = w → h114.1 116 3 = g → 0 ≤ v113Z ∧ v113Z ≤ 20 → nA h h114 → 20 - v113Z < (nn : Int) → V R_Mod b_Mod_read 11 (some .int) 3 74 (q_Mod_readA h k kZ l lZ f fZ n nZ w wZ g gZ) h114 220 [some (.ref 116), some (.int k), some (.int l), some (.int f), some (.int n), some (.int v46), some (.int v25), some (.int v26), some (.int z96), some (.int v113), none] [] := by
                                  intro nn
                                  induction nn with
                                  | zero => intro v113 v113Z h114 v113E Ih114 Fh114 K115 K116 q117 q118 hm119; exact absurd hm119 (by omega)
                                  | succ nn ihL111 =>
                                    intro v113 v113Z h114 v113E Ih114 Fh114 K115 K116 q117 q118 hm119
                                    have na9 : nA h h114 := by assumption
                                    refine V_iload d_Mod_read_220 rfl ?_
                                    refine V_bipush 20 d_Mod_read_222 (by decide) ?_
                                    refine V_icmp_ge 250 v113E tc_20 d_Mod_read_224 (by decide) (fun c120 => ?_) (fun c120 => ?_)
                                    ·
                                      refine V_bipush (-20) d_Mod_read_250 (by decide) ?_
                                      refine V_iload d_Mod_read_252 rfl ?_
                                      refine V_isub tc_m20 v26E (by omega) d_Mod_read_254 (fun z121 z121e z121E => ?_)
                                      exact V_iret rfl d_Mod_read_255 ⟨z121, rfl, ⟨Ih114, Fh114, na9⟩⟩
                                    ·
                                      refine V_aload_n 0 d_Mod_read_227 rfl rfl ?_
                                      refine V_getR fa_Mod_7 sk_116 rfl d_Mod_read_228 ?_
                                      refine V_bipush 64 d_Mod_read_231 (by decide) ?_
                                      refine V_iload d_Mod_read_233 rfl ?_
                                      refine V_iadd tc_64 v113E (by omega) d_Mod_read_235 (fun z122 z122e z122E => ?_)
                                      refine V_aload_n 0 d_Mod_read_236 rfl rfl ?_
                                      refine V_getR fa_Mod_53 sk_116 rfl d_Mod_read_237 ?_
                                      refine V_iload d_Mod_read_240 rfl ?_
                                      refine N_iald sk_131 v113E (by omega) d_Mod_read_242 (fun z123 z123Z z123E z123e => ?_)
                                      refine N_iast sk_117 z122E (by omega) d_Mod_read_243 (fun h124 eh124 => ?_)
                                      have hI125 : Inv h124 := inv_full Ih114 eh124 (st_lo (by omega))
                                      have f126 : fr S_Mod_readA h h124 := fr_put Fh114 eh124 rfl
                                      have N127 : nA h h124 := nA_s na9 eh124 (by omega)
                                      obtain ⟨z128, z128E, z128e⟩ : ∃ y : Int32, y.toInt = v113Z + 1 ∧ y = v113 + Int32.ofInt 1 := ⟨_, ti_add v113E (by decide) (by omega), rfl⟩
                                      refine V_iinc 9 [some (.ref 116), some (.int k), some (.int l), some (.int f), some (.int n), some (.int v46), some (.int v25), some (.int v26), some (.int z96), some (.int z128), none] d_Mod_read_244 rfl z128e.symm (by decide) rfl rfl ?_
                                      refine V_goto 220 d_Mod_read_247 (by decide) ?_
                                      exact ihL111 z128 ((v113Z + 1)) h124 z128E hI125 f126 (kn_ne eh124 K115 (by decide)) (kn_ne eh124 K116 (by decide)) (by omega) N127 (by omega)
                                exact L111 (Int.toNat ((20 - 0 : Int) + 1)) 0 0 h103 tc_0 hI105 f106 (kn_call fh103 K28 rfl) (kn_call fh103 K29 rfl) (by omega) N107 (by omega)
                          ·
                            refine V_iload_n 3 d_Mod_read_91 rfl rfl ?_
                            refine V_i2l d_Mod_read_92 (fun z129 z129e z129E => ?_)
                            have z129F : z129.toInt = fZ := z129E.trans fE
                            refine V_iconst 3 d_Mod_read_93 (by decide) ?_
                            refine V_iload d_Mod_read_94 rfl ?_
                            refine V_imul tc_3 v26E (by omega) d_Mod_read_96 (fun z130 z130e z130E => ?_)
                            refine V_i2l d_Mod_read_97 (fun z131 z131e z131E => ?_)
                            have z131F : z131.toInt = (3 * v26Z) := z131E.trans z130E
                            refine N_ladd d_Mod_read_98 (fun z132 z132Z z132E z132e => ?_)
                            have g133 : z132Z = fZ + (3 * v26Z) := by rw [← z132E, z132e]; exact t64_add z129F z131F (by omega)
                            refine V_iload d_Mod_read_99 rfl ?_
                            refine V_i2l d_Mod_read_101 (fun z134 z134e z134E => ?_)
                            have z134F : z134.toInt = v47Z := z134E.trans v47E
                            refine N_ladd d_Mod_read_102 (fun z135 z135Z z135E z135e => ?_)
                            have g136 : z135Z = z132Z + v47Z := by rw [← z135E, z135e]; exact t64_add z132E z134F (by omega)
                            refine V_lstore 9 [some (.ref 116), some (.int k), some (.int l), some (.int f), some (.int n), some (.int v46), some (.int v25), some (.int v26), some (.int v47), some (.long z135), none] d_Mod_read_103 (by decide) rfl rfl ?_
                            refine V_aload_n 0 d_Mod_read_105 rfl rfl ?_
                            refine V_getR fa_Mod_44 sk_116 rfl d_Mod_read_106 ?_
                            refine V_iload_n 1 d_Mod_read_109 rfl rfl ?_
                            refine N_iald sk_128 kE (by omega) d_Mod_read_110 (fun z137 z137Z z137E z137e => ?_)
                            refine V_bipush (-4) d_Mod_read_111 (by decide) ?_
                            refine V_icmp_ne 120 z137E tc_m4 d_Mod_read_113 (by decide) (fun c138 => ?_) (fun c138 => ?_)
                            ·
                              refine V_aload_n 0 d_Mod_read_120 rfl rfl ?_
                              refine V_getR fa_Mod_44 sk_116 rfl d_Mod_read_121 ?_
                              refine V_iload_n 1 d_Mod_read_124 rfl rfl ?_
                              refine N_iald sk_128 kE (by omega) d_Mod_read_125 (fun z139 z139Z z139E z139e => ?_)
                              refine V_iload_n 2 d_Mod_read_126 rfl rfl ?_
                              refine V_icmp_eq 134 z139E lE d_Mod_read_127 (by decide) (fun c140 => ?_) (fun c140 => ?_)
                              ·
                                refine V_lload d_Mod_read_134 rfl ?_
                                refine V_lconst 0 d_Mod_read_136 (by decide) ?_
                                refine N_lcmp d_Mod_read_137 (fun z141 z141Z z141E z141e => ?_)
                                have g142 := lcmp_ti z135E tl_0 z141e z141E
                                refine V_if_lt 154 z141E d_Mod_read_138 (by decide) (fun c143 => ?_) (fun c143 => ?_)
                                ·
                                  refine V_iconst 2 d_Mod_read_154 (by decide) ?_
                                  refine V_goto 159 d_Mod_read_155 (by decide) ?_
                                  refine V_istore 5 [some (.ref 116), some (.int k), some (.int l), some (.int f), some (.int n), some (.int 2), some (.int v25), some (.int v26), some (.int v47), some (.long z135), none] d_Mod_read_159 (by decide) rfl rfl ?_
                                  obtain ⟨z144, z144E, z144e⟩ : ∃ y : Int32, y.toInt = v47Z + 1 ∧ y = v47 + Int32.ofInt 1 := ⟨_, ti_add v47E (by decide) (by omega), rfl⟩
                                  refine V_iinc 8 [some (.ref 116), some (.int k), some (.int l), some (.int f), some (.int n), some (.int 2), some (.int v25), some (.int v26), some (.int z144), some (.long z135), none] d_Mod_read_161 rfl z144e.symm (by decide) rfl rfl ?_
                                  refine V_goto 80 d_Mod_read_164 (by decide) ?_
                                  refine V_drop 9 [some (.ref 116), some (.int k), some (.int l), some (.int f), some (.int n), some (.int 2), some (.int v25), some (.int v26), some (.int z144), none, none] rfl ?_
                                  exact ihL44 2 2 z144 ((v47Z + 1)) tc_2 z144E (by omega) (by omega) (by omega)
                                ·
                                  refine V_lload d_Mod_read_141 rfl ?_
                                  refine V_aload_n 0 d_Mod_read_143 rfl rfl ?_
                                  refine V_getR fa_Mod_47 sk_116 rfl d_Mod_read_144 ?_
                                  refine V_iload_n 1 d_Mod_read_147 rfl rfl ?_
                                  refine N_iald sk_129 kE (by omega) d_Mod_read_148 (fun z145 z145Z z145E z145e => ?_)
                                  have g146 : 0 ≤ z145Z ∧ z145Z ≤ 40 := inv_at Ih27 z145E z145e rfl
                                  have g147 : z145Z = svZ := by rw [← z145E, z145e, (Fh27).1 129 _ rfl, ← svK, svE]
                                  refine V_i2l d_Mod_read_149 (fun z148 z148e z148E => ?_)
                                  have z148F : z148.toInt = z145Z := z148E.trans z145E
                                  refine N_lcmp d_Mod_read_150 (fun z149 z149Z z149E z149e => ?_)
                                  have g150 := lcmp_ti z135E z148F z149e z149E
                                  refine V_if_lt 158 z149E d_Mod_read_151 (by decide) (fun c151 => ?_) (fun c151 => ?_)
                                  ·
                                    refine V_iconst 0 d_Mod_read_158 (by decide) ?_
                                    refine V_istore 5 [some (.ref 116), some (.int k), some (.int l), some (.int f), some (.int n), some (.int 0), some (.int v25), some (.int v26), some (.int v47), some (.long z135), none] d_Mod_read_159 (by decide) rfl rfl ?_
                                    obtain ⟨z152, z152E, z152e⟩ : ∃ y : Int32, y.toInt = v47Z + 1 ∧ y = v47 + Int32.ofInt 1 := ⟨_, ti_add v47E (by decide) (by omega), rfl⟩
                                    refine V_iinc 8 [some (.ref 116), some (.int k), some (.int l), some (.int f), some (.int n), some (.int 0), some (.int v25), some (.int v26), some (.int z152), some (.long z135), none] d_Mod_read_161 rfl z152e.symm (by decide) rfl rfl ?_
                                    refine V_goto 80 d_Mod_read_164 (by decide) ?_
                                    refine V_drop 9 [some (.ref 116), some (.int k), some (.int l), some (.int f), some (.int n), some (.int 0), some (.int v25), some (.int v26), some (.int z152), none, none] rfl ?_
                                    exact ihL44 0 0 z152 ((v47Z + 1)) tc_0 z152E (by omega) (by omega) (by omega)
                                  ·
                                    refine V_iconst 2 d_Mod_read_154 (by decide) ?_
                                    refine V_goto 159 d_Mod_read_155 (by decide) ?_
                                    refine V_istore 5 [some (.ref 116), some (.int k), some (.int l), some (.int f), some (.int n), some (.int 2), some (.int v25), some (.int v26), some (.int v47), some (.long z135), none] d_Mod_read_159 (by decide) rfl rfl ?_
                                    obtain ⟨z153, z153E, z153e⟩ : ∃ y : Int32, y.toInt = v47Z + 1 ∧ y = v47 + Int32.ofInt 1 := ⟨_, ti_add v47E (by decide) (by omega), rfl⟩
                                    refine V_iinc 8 [some (.ref 116), some (.int k), some (.int l), some (.int f), some (.int n), some (.int 2), some (.int v25), some (.int v26), some (.int z153), some (.long z135), none] d_Mod_read_161 rfl z153e.symm (by decide) rfl rfl ?_
                                    refine V_goto 80 d_Mod_read_164 (by decide) ?_
                                    refine V_drop 9 [some (.ref 116), some (.int k), some (.int l), some (.int f), some (.int n), some (.int 2), some (.int v25), some (.int v26), some (.int z153), none, none] rfl ?_
                                    exact ihL44 2 2 z153 ((v47Z + 1)) tc_2 z153E (by omega) (by omega) (by omega)
                              ·
                                refine V_iconst 3 d_Mod_read_130 (by decide) ?_
                                refine V_goto 159 d_Mod_read_131 (by decide) ?_
                                refine V_istore 5 [some (.ref 116), some (.int k), some (.int l), some (.int f), some (.int n), some (.int 3), some (.int v25), some (.int v26), some (.int v47), some (.long z135), none] d_Mod_read_159 (by decide) rfl rfl ?_
                                obtain ⟨z154, z154E, z154e⟩ : ∃ y : Int32, y.toInt = v47Z + 1 ∧ y = v47 + Int32.ofInt 1 := ⟨_, ti_add v47E (by decide) (by omega), rfl⟩
                                refine V_iinc 8 [some (.ref 116), some (.int k), some (.int l), some (.int f), some (.int n), some (.int 3), some (.int v25), some (.int v26), some (.int z154), some (.long z135), none] d_Mod_read_161 rfl z154e.symm (by decide) rfl rfl ?_
                                refine V_goto 80 d_Mod_read_164 (by decide) ?_
                                refine V_drop 9 [some (.ref 116), some (.int k), some (.int l), some (.int f), some (.int n), some (.int 3), some (.int v25), some (.int v26), some (.int z154), none, none] rfl ?_
                                exact ihL44 3 3 z154 ((v47Z + 1)) tc_3 z154E (by omega) (by omega) (by omega)
                            ·
                              refine V_iconst 1 d_Mod_read_116 (by decide) ?_
                              refine V_goto 159 d_Mod_read_117 (by decide) ?_
                              refine V_istore 5 [some (.ref 116), some (.int k), some (.int l), some (.int f), some (.int n), some (.int 1), some (.int v25), some (.int v26), some (.int v47), some (.long z135), none] d_Mod_read_159 (by decide) rfl rfl ?_
                              obtain ⟨z155, z155E, z155e⟩ : ∃ y : Int32, y.toInt = v47Z + 1 ∧ y = v47 + Int32.ofInt 1 := ⟨_, ti_add v47E (by decide) (by omega), rfl⟩
                              refine V_iinc 8 [some (.ref 116), some (.int k), some (.int l), some (.int f), some (.int n), some (.int 1), some (.int v25), some (.int v26), some (.int z155), some (.long z135), none] d_Mod_read_161 rfl z155e.symm (by decide) rfl rfl ?_
                              refine V_goto 80 d_Mod_read_164 (by decide) ?_
                              refine V_drop 9 [some (.ref 116), some (.int k), some (.int l), some (.int f), some (.int n), some (.int 1), some (.int v25), some (.int v26), some (.int z155), none, none] rfl ?_
                              exact ihL44 1 1 z155 ((v47Z + 1)) tc_1 z155E (by omega) (by omega) (by omega)
                    exact L44 (Int.toNat ((3 - 0 : Int) + 1)) v24 v24Z 0 0 v24E tc_0 (by omega) (by omega) (by omega)
            exact L22 (Int.toNat ((nZ - 0 : Int) + 1)) 0 0 0 0 0 0 h15 tc_0 tc_0 tc_0 Ih15 Fh15 K16 K17 (by omega) (by omega) na9 (by omega)
          ·
            refine V_aload_n 0 d_Mod_read_33 rfl rfl ?_
            refine V_getR fa_Mod_53 sk_116 rfl d_Mod_read_34 ?_
            refine V_iload d_Mod_read_37 rfl ?_
            refine V_aload_n 0 d_Mod_read_39 rfl rfl ?_
            refine V_getR fa_Mod_7 sk_116 rfl d_Mod_read_40 ?_
            refine V_bipush 64 d_Mod_read_43 (by decide) ?_
            refine V_iload d_Mod_read_45 rfl ?_
            refine V_iadd tc_64 v14E (by omega) d_Mod_read_47 (fun z156 z156e z156E => ?_)
            refine N_iald sk_117 z156E (by omega) d_Mod_read_48 (fun z157 z157Z z157E z157e => ?_)
            refine N_iast sk_131 v14E (by omega) d_Mod_read_49 (fun h158 eh158 => ?_)
            have hI159 : Inv h158 := inv_full Ih15 eh158 rfl
            have f160 : fr S_Mod_readA h h158 := fr_put Fh15 eh158 rfl
            have N161 : nA h h158 := nA_s na9 eh158 (by omega)
            obtain ⟨z162, z162E, z162e⟩ : ∃ y : Int32, y.toInt = v14Z + 1 ∧ y = v14 + Int32.ofInt 1 := ⟨_, ti_add v14E (by decide) (by omega), rfl⟩
            refine V_iinc 5 [some (.ref 116), some (.int k), some (.int l), some (.int f), some (.int n), some (.int z162), none, none, none, none, none] d_Mod_read_50 rfl z162e.symm (by decide) rfl rfl ?_
            refine V_goto 26 d_Mod_read_53 (by decide) ?_
            exact ihL12 z162 ((v14Z + 1)) h158 z162E hI159 f160 (kn_ne eh158 K16 (by decide)) (kn_ne eh158 K17 (by decide)) (by omega) N161 (by omega)
      exact L12 (Int.toNat ((20 - 0 : Int) + 1)) 0 0 h tc_0 hI f0 wK gK (by omega) nA_rf (by omega)
    ·
      refine V_iconst (-1) d_Mod_read_21 (by decide) ?_
      exact V_iret rfl d_Mod_read_22 ⟨(-1), rfl, ⟨hI, f0, nA_rf⟩⟩
