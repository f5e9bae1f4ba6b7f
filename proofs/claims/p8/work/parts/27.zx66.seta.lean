abbrev q_Land_hasX_0 (h : Hp) (c : Int32) (cZ : Int) (w : Int32) (wZ : Int) (g : Int32) (gZ : Int) : Option Value → Hp → Prop := pInt (fun r h' => h = h' ∧ (r.toInt = 1 ∧ 0 ≤ cZ ∧ cZ ≤ 15 ∧ cZ < wZ * gZ ∨ r.toInt = 0 ∧ (cZ < 0 ∨ wZ * gZ ≤ cZ)))
set_option maxRecDepth 100000 in
theorem c_Land_hasX_0 (h : Hp) (hI : Inv h) (c : Int32) (cZ : Int) (cE : c.toInt = cZ) (w : Int32) (wZ : Int) (wE : w.toInt = wZ) (wK : h.1 1 0 = w) (g : Int32) (gZ : Int) (gE : g.toInt = gZ) (gK : h.1 1 1 = g) : Ct y_Land_has b_Land_has 2 (some .boolean) 1 20 [.ref 1, .int c] h (q_Land_hasX_0 h c cZ w wZ g gZ) := by
  refine ct_ow R_Land [some (.ref 1), some (.int c)] rfl (by decide) rfl (Nat.le_of_ble_eq_true rfl) ?_
  have f0 : fr [] h h := fr_rf
  have g1 : 2 ≤ wZ ∧ wZ ≤ 4 := inv_at hI wE wK.symm rfl
  have g2 : 2 ≤ gZ ∧ gZ ≤ 4 := inv_at hI gE gK.symm rfl
  refine V_iload_n 1 d_Land_has_0 rfl rfl ?_
  refine V_if_lt 16 cE d_Land_has_1 (by decide) (fun c3 => ?_) (fun c3 => ?_)
  ·
    refine V_iconst 0 d_Land_has_16 (by decide) ?_
    exact V_zret rfl (by decide) d_Land_has_17 ⟨0, rfl, ⟨rfl, (by (try rw [show Int32.toInt 0 = 0 from rfl]) <;> omega)⟩⟩
  ·
    refine V_iload_n 1 d_Land_has_4 rfl rfl ?_
    refine V_aload_n 0 d_Land_has_5 rfl rfl ?_
    refine N_callVI [] [.int c] cv_Land_52 sk_1 rfl d_Land_has_6 rfl (Nat.le_of_ble_eq_true rfl) (by decide) (by decide) (c_Land_cells_0 h hI w wZ wE wK g gZ gE gK) (fun z4 h5 z4Z z4E p6 => ?_)
    obtain ⟨eh5, p6⟩ := p6
    subst eh5
    refine V_icmp_ge 16 cE z4E d_Land_has_9 (by decide) (fun c7 => ?_) (fun c7 => ?_)
    ·
      refine V_iconst 0 d_Land_has_16 (by decide) ?_
      exact V_zret rfl (by decide) d_Land_has_17 ⟨0, rfl, ⟨rfl, (by (try rw [show Int32.toInt 0 = 0 from rfl]) <;> omega)⟩⟩
    ·
      refine V_iconst 1 d_Land_has_12 (by decide) ?_
      refine V_goto 17 d_Land_has_13 (by decide) ?_
      exact V_zret rfl (by decide) d_Land_has_17 ⟨1, rfl, ⟨rfl, (by (try rw [show Int32.toInt 1 = 1 from rfl]) <;> omega)⟩⟩
abbrev q_Mod_isCellX (h : Hp) (c : Int32) (cZ : Int) (w : Int32) (wZ : Int) (g : Int32) (gZ : Int) : Option Value → Hp → Prop := pInt (fun r h' => h = h' ∧ (r.toInt = 1 ∧ 0 ≤ cZ ∧ cZ ≤ 15 ∧ cZ < wZ * gZ ∨ r.toInt = 0 ∧ (cZ < 0 ∨ wZ * gZ ≤ cZ)))
set_option maxRecDepth 100000 in
theorem c_Mod_isCellX (h : Hp) (hI : Inv h) (c : Int32) (cZ : Int) (cE : c.toInt = cZ) (w : Int32) (wZ : Int) (wE : w.toInt = wZ) (wK : h.1 116 2 = w) (g : Int32) (gZ : Int) (gE : g.toInt = gZ) (gK : h.1 116 3 = g) : Ct y_Mod_isCell b_Mod_isCell 2 (some .boolean) 1 25 [.ref 116, .int c] h (q_Mod_isCellX h c cZ w wZ g gZ) := by
  refine ct_ow R_Mod [some (.ref 116), some (.int c)] rfl (by decide) rfl (Nat.le_of_ble_eq_true rfl) ?_
  have f0 : fr [] h h := fr_rf
  have g1 : 2 ≤ wZ ∧ wZ ≤ 4 := inv_at hI wE wK.symm rfl
  have g2 : 2 ≤ gZ ∧ gZ ≤ 4 := inv_at hI gE gK.symm rfl
  refine V_iload_n 1 d_Mod_isCell_0 rfl rfl ?_
  refine V_i2l d_Mod_isCell_1 (fun z3 z3e z3E => ?_)
  have z3F : z3.toInt = cZ := z3E.trans cE
  refine V_lconst 0 d_Mod_isCell_2 (by decide) ?_
  refine V_aload_n 0 d_Mod_isCell_3 rfl rfl ?_
  refine N_callVI [] [.long 0, .long z3] cv_Mod_183 sk_116 rfl d_Mod_isCell_4 rfl (Nat.le_of_ble_eq_true rfl) (by decide) (by decide) (c_Mod_cellMany h hI w wZ wE wK g gZ gE gK) (fun z4 h5 z4Z z4E p6 => ?_)
  obtain ⟨eh5, p6⟩ := p6
  subst eh5
  refine V_iconst 1 d_Mod_isCell_7 (by decide) ?_
  refine V_isub z4E tc_1 (by (first | decide +kernel | omega)) d_Mod_isCell_8 (fun z7 z7e z7E => ?_)
  refine V_i2l d_Mod_isCell_9 (fun z8 z8e z8E => ?_)
  have z8F : z8.toInt = (z4Z - 1) := z8E.trans z7E
  refine N_callSI [.long z3, .long 0, .long z8] [] cs_Mod_95 d_Mod_isCell_10 rfl (Nat.le_of_ble_eq_true rfl) (by decide) (by decide) (c_Mod_in h z3 cZ z3F 0 0 tl_0 z8 ((z4Z - 1)) z8F) (fun z9 h10 z9Z z9E p11 => ?_)
  obtain ⟨eh10, p11⟩ := p11
  subst eh10
  exact V_zret rfl (by rw [z9E]; omega) d_Mod_isCell_13 ⟨z9, rfl, ⟨rfl, (by (try rw [z9E]); omega)⟩⟩
abbrev q_Rod_isSightX (h : Hp) (c : Int32) (cZ : Int) (o : Int32) (oZ : Int) (s : Int32) (sZ : Int) (w : Int32) (wZ : Int) (g : Int32) (gZ : Int) : Option Value → Hp → Prop := pInt (fun r h' => h = h' ∧ (r.toInt = 1 ∧ 0 ≤ cZ ∧ cZ ≤ 15 ∧ cZ < wZ * gZ ∧ 0 ≤ oZ ∧ oZ ≤ 3 ∧ 1 ≤ sZ ∧ sZ ≤ 9 ∨ r.toInt = 0 ∧ ¬ (0 ≤ cZ ∧ cZ < wZ * gZ ∧ 0 ≤ oZ ∧ oZ ≤ 3 ∧ 1 ≤ sZ ∧ sZ ≤ 9)))
set_option maxRecDepth 100000 in
theorem c_Rod_isSightX (h : Hp) (hI : Inv h) (c : Int32) (cZ : Int) (cE : c.toInt = cZ) (o : Int32) (oZ : Int) (oE : o.toInt = oZ) (s : Int32) (sZ : Int) (sE : s.toInt = sZ) (w : Int32) (wZ : Int) (wE : w.toInt = wZ) (wK : h.1 1 0 = w) (g : Int32) (gZ : Int) (gE : g.toInt = gZ) (gK : h.1 1 1 = g) : Ct y_Rod_isSight b_Rod_isSight 4 (some .boolean) 2 41 [.ref 85, .int c, .int o, .int s] h (q_Rod_isSightX h c cZ o oZ s sZ w wZ g gZ) := by
  refine ct_ow R_Rod [some (.ref 85), some (.int c), some (.int o), some (.int s)] rfl (by decide) rfl (Nat.le_of_ble_eq_true rfl) ?_
  have f0 : fr [] h h := fr_rf
  have g1 : 2 ≤ wZ ∧ wZ ≤ 4 := inv_at hI wE wK.symm rfl
  have g2 : 2 ≤ gZ ∧ gZ ≤ 4 := inv_at hI gE gK.symm rfl
  refine V_aload_n 0 d_Rod_isSight_0 rfl rfl ?_
  refine V_getR fa_Rod_12 sk_85 rfl d_Rod_isSight_1 ?_
  refine V_getR fa_Rod_91 sk_0 rfl d_Rod_isSight_4 ?_
  refine V_iload_n 1 d_Rod_isSight_7 rfl rfl ?_
  refine N_callVI [.int c] [] cv_Rod_124 sk_1 rfl d_Rod_isSight_8 rfl (Nat.le_of_ble_eq_true rfl) (by decide) (by decide) (c_Land_hasX_0 h hI c cZ cE w wZ wE wK g gZ gE gK) (fun z3 h4 z3Z z3E p5 => ?_)
  obtain ⟨eh4, p5⟩ := p5
  subst eh4
  refine V_if_eq 36 z3E d_Rod_isSight_11 (by decide) (fun c6 => ?_) (fun c6 => ?_)
  ·
    refine V_iconst 0 d_Rod_isSight_36 (by decide) ?_
    exact V_zret rfl (by decide) d_Rod_isSight_37 ⟨0, rfl, ⟨rfl, (by (try rw [show Int32.toInt 0 = 0 from rfl]) <;> omega)⟩⟩
  ·
    refine V_iload_n 2 d_Rod_isSight_14 rfl rfl ?_
    refine N_callSI [.int o] [] cs_Rod_151 d_Rod_isSight_15 rfl (Nat.le_of_ble_eq_true rfl) (by decide) (by decide) (c_Rod_isOwner h o oZ oE) (fun z7 h8 z7Z z7E p9 => ?_)
    obtain ⟨eh8, p9⟩ := p9
    subst eh8
    refine V_if_eq 36 z7E d_Rod_isSight_18 (by decide) (fun c10 => ?_) (fun c10 => ?_)
    ·
      refine V_iconst 0 d_Rod_isSight_36 (by decide) ?_
      exact V_zret rfl (by decide) d_Rod_isSight_37 ⟨0, rfl, ⟨rfl, (by (try rw [show Int32.toInt 0 = 0 from rfl]) <;> omega)⟩⟩
    ·
      refine V_iload_n 3 d_Rod_isSight_21 rfl rfl ?_
      refine V_iconst 1 d_Rod_isSight_22 (by decide) ?_
      refine V_icmp_lt 36 sE tc_1 d_Rod_isSight_23 (by decide) (fun c11 => ?_) (fun c11 => ?_)
      ·
        refine V_iconst 0 d_Rod_isSight_36 (by decide) ?_
        exact V_zret rfl (by decide) d_Rod_isSight_37 ⟨0, rfl, ⟨rfl, (by (try rw [show Int32.toInt 0 = 0 from rfl]) <;> omega)⟩⟩
      ·
        refine V_iload_n 3 d_Rod_isSight_26 rfl rfl ?_
        refine V_bipush 9 d_Rod_isSight_27 (by decide) ?_
        refine V_icmp_gt 36 sE tc_9 d_Rod_isSight_29 (by decide) (fun c12 => ?_) (fun c12 => ?_)
        ·
          refine V_iconst 0 d_Rod_isSight_36 (by decide) ?_
          exact V_zret rfl (by decide) d_Rod_isSight_37 ⟨0, rfl, ⟨rfl, (by (try rw [show Int32.toInt 0 = 0 from rfl]) <;> omega)⟩⟩
        ·
          refine V_iconst 1 d_Rod_isSight_32 (by decide) ?_
          refine V_goto 37 d_Rod_isSight_33 (by decide) ?_
          exact V_zret rfl (by decide) d_Rod_isSight_37 ⟨1, rfl, ⟨rfl, (by (try rw [show Int32.toInt 1 = 1 from rfl]) <;> omega)⟩⟩
abbrev q_Mod_isSeenX (h : Hp) (c : Int32) (cZ : Int) (o : Int32) (oZ : Int) (s : Int32) (sZ : Int) (w : Int32) (wZ : Int) (g : Int32) (gZ : Int) : Option Value → Hp → Prop := pInt (fun r h' => h = h' ∧ (r.toInt = 1 ∧ 0 ≤ cZ ∧ cZ ≤ 15 ∧ cZ < wZ * gZ ∧ 0 ≤ oZ ∧ oZ ≤ 3 ∧ 1 ≤ sZ ∧ sZ ≤ 9 ∨ r.toInt = 0 ∧ ¬ (0 ≤ cZ ∧ cZ < wZ * gZ ∧ 0 ≤ oZ ∧ oZ ≤ 3 ∧ 1 ≤ sZ ∧ sZ ≤ 9)))
set_option maxRecDepth 100000 in
theorem c_Mod_isSeenX (h : Hp) (hI : Inv h) (c : Int32) (cZ : Int) (cE : c.toInt = cZ) (o : Int32) (oZ : Int) (oE : o.toInt = oZ) (s : Int32) (sZ : Int) (sE : s.toInt = sZ) (w : Int32) (wZ : Int) (wE : w.toInt = wZ) (wK : h.1 116 2 = w) (g : Int32) (gZ : Int) (gE : g.toInt = gZ) (gK : h.1 116 3 = g) : Ct y_Mod_isSeen b_Mod_isSeen 4 (some .boolean) 2 46 [.ref 116, .int c, .int o, .int s] h (q_Mod_isSeenX h c cZ o oZ s sZ w wZ g gZ) := by
  refine ct_ow R_Mod [some (.ref 116), some (.int c), some (.int o), some (.int s)] rfl (by decide) rfl (Nat.le_of_ble_eq_true rfl) ?_
  have f0 : fr [] h h := fr_rf
  have g1 : 2 ≤ wZ ∧ wZ ≤ 4 := inv_at hI wE wK.symm rfl
  have g2 : 2 ≤ gZ ∧ gZ ≤ 4 := inv_at hI gE gK.symm rfl
  refine V_aload_n 0 d_Mod_isSeen_0 rfl rfl ?_
  refine V_iload_n 1 d_Mod_isSeen_1 rfl rfl ?_
  refine N_callVI [.int c] [] cv_Mod_200 sk_116 rfl d_Mod_isSeen_2 rfl (Nat.le_of_ble_eq_true rfl) (by decide) (by decide) (c_Mod_isCellX h hI c cZ cE w wZ wE wK g gZ gE gK) (fun z3 h4 z3Z z3E p5 => ?_)
  obtain ⟨eh4, p5⟩ := p5
  subst eh4
  refine V_if_eq 31 z3E d_Mod_isSeen_5 (by decide) (fun c6 => ?_) (fun c6 => ?_)
  ·
    refine V_iconst 0 d_Mod_isSeen_31 (by decide) ?_
    exact V_zret rfl (by decide) d_Mod_isSeen_32 ⟨0, rfl, ⟨rfl, (by (try rw [show Int32.toInt 0 = 0 from rfl]) <;> omega)⟩⟩
  ·
    refine V_iload_n 2 d_Mod_isSeen_8 rfl rfl ?_
    refine N_callSI [.int o] [] cs_Mod_205 d_Mod_isSeen_9 rfl (Nat.le_of_ble_eq_true rfl) (by decide) (by decide) (c_Mod_isOwner h o oZ oE) (fun z7 h8 z7Z z7E p9 => ?_)
    obtain ⟨eh8, p9⟩ := p9
    subst eh8
    refine V_if_eq 31 z7E d_Mod_isSeen_12 (by decide) (fun c10 => ?_) (fun c10 => ?_)
    ·
      refine V_iconst 0 d_Mod_isSeen_31 (by decide) ?_
      exact V_zret rfl (by decide) d_Mod_isSeen_32 ⟨0, rfl, ⟨rfl, (by (try rw [show Int32.toInt 0 = 0 from rfl]) <;> omega)⟩⟩
    ·
      refine V_iload_n 3 d_Mod_isSeen_15 rfl rfl ?_
      refine V_i2l d_Mod_isSeen_16 (fun z11 z11e z11E => ?_)
      have z11F : z11.toInt = sZ := z11E.trans sE
      refine V_lconst 1 d_Mod_isSeen_17 (by decide) ?_
      refine V_ldc2 d_Mod_isSeen_18 wl_Mod_208 ?_
      refine N_callSI [.long z11, .long 1, .long 9] [] cs_Mod_95 d_Mod_isSeen_21 rfl (Nat.le_of_ble_eq_true rfl) (by decide) (by decide) (c_Mod_in h z11 sZ z11F 1 1 tl_1 9 9 tl_9) (fun z12 h13 z12Z z12E p14 => ?_)
      obtain ⟨eh13, p14⟩ := p14
      subst eh13
      refine V_if_eq 31 z12E d_Mod_isSeen_24 (by decide) (fun c15 => ?_) (fun c15 => ?_)
      ·
        refine V_iconst 0 d_Mod_isSeen_31 (by decide) ?_
        exact V_zret rfl (by decide) d_Mod_isSeen_32 ⟨0, rfl, ⟨rfl, (by (try rw [show Int32.toInt 0 = 0 from rfl]) <;> omega)⟩⟩
      ·
        refine V_iconst 1 d_Mod_isSeen_27 (by decide) ?_
        refine V_goto 32 d_Mod_isSeen_28 (by decide) ?_
        exact V_zret rfl (by decide) d_Mod_isSeen_32 ⟨1, rfl, ⟨rfl, (by (try rw [show Int32.toInt 1 = 1 from rfl]) <;> omega)⟩⟩
def S_Rod_ironX : List (Nat × Option Nat) := [(3, none)]
abbrev q_Rod_ironX (h : Hp) (c : Int32) (cZ : Int) (b : Int32) (bZ : Int) (w : Int32) (wZ : Int) (g : Int32) (gZ : Int) : Option Value → Hp → Prop := pInt (fun r h' => Inv h' ∧ fr S_Rod_ironX h h' ∧ (Er h h' 3 cZ.toNat (0 ≤ cZ ∧ cZ < wZ * gZ) (fun x => bZ ≠ 0 ∧ x.toInt = 1 ∨ bZ = 0 ∧ x.toInt = 0) r))
set_option maxRecDepth 100000 in
theorem c_Rod_ironX (h : Hp) (hI : Inv h) (c : Int32) (cZ : Int) (cE : c.toInt = cZ) (b : Int32) (bZ : Int) (bE : b.toInt = bZ) (w : Int32) (wZ : Int) (wE : w.toInt = wZ) (wK : h.1 1 0 = w) (g : Int32) (gZ : Int) (gE : g.toInt = gZ) (gK : h.1 1 1 = g) : Ct y_Rod_iron b_Rod_iron 5 (some .int) 2 41 [.ref 85, .int c, .int b] h (q_Rod_ironX h c cZ b bZ w wZ g gZ) := by
  refine ct_ow R_Rod [some (.ref 85), some (.int c), some (.int b), none, none] rfl (by decide) rfl (Nat.le_of_ble_eq_true rfl) ?_
  have f0 : fr S_Rod_ironX h h := fr_rf
  have g1 : 2 ≤ wZ ∧ wZ ≤ 4 := inv_at hI wE wK.symm rfl
  have g2 : 2 ≤ gZ ∧ gZ ≤ 4 := inv_at hI gE gK.symm rfl
  refine V_aload_n 0 d_Rod_iron_0 rfl rfl ?_
  refine V_getR fa_Rod_12 sk_85 rfl d_Rod_iron_1 ?_
  refine V_getR fa_Rod_91 sk_0 rfl d_Rod_iron_4 ?_
  refine V_astore_n 3 [some (.ref 85), some (.int c), some (.int b), some (.ref 1), none] d_Rod_iron_7 rfl (by decide) rfl rfl ?_
  refine V_aload_n 3 d_Rod_iron_8 rfl rfl ?_
  refine V_iload_n 1 d_Rod_iron_9 rfl rfl ?_
  refine N_callVI [.int c] [] cv_Rod_124 sk_1 rfl d_Rod_iron_10 rfl (Nat.le_of_ble_eq_true rfl) (by decide) (by decide) (c_Land_hasX_0 h hI c cZ cE w wZ wE wK g gZ gE gK) (fun z3 h4 z3Z z3E p5 => ?_)
  obtain ⟨eh4, p5⟩ := p5
  subst eh4
  refine V_if_ne 18 z3E d_Rod_iron_13 (by decide) (fun c6 => ?_) (fun c6 => ?_)
  ·
    refine V_aload_n 3 d_Rod_iron_18 rfl rfl ?_
    refine V_getR fa_Rod_132 sk_1 rfl d_Rod_iron_19 ?_
    refine V_iload_n 1 d_Rod_iron_22 rfl rfl ?_
    refine N_iald sk_3 cE (by (first | decide +kernel | omega)) d_Rod_iron_23 (fun z7 z7Z z7E z7e => ?_)
    refine V_istore 4 [some (.ref 85), some (.int c), some (.int b), some (.ref 1), some (.int z7)] d_Rod_iron_24 (by decide) rfl rfl ?_
    refine V_aload_n 3 d_Rod_iron_26 rfl rfl ?_
    refine V_getR fa_Rod_132 sk_1 rfl d_Rod_iron_27 ?_
    refine V_iload_n 1 d_Rod_iron_30 rfl rfl ?_
    refine V_iload_n 2 d_Rod_iron_31 rfl rfl ?_
    refine N_callSI [.int b] [.int c, .ref 3] cs_Rod_147 d_Rod_iron_32 rfl (Nat.le_of_ble_eq_true rfl) (by decide) (by decide) (c_Rod_oneIf h b bZ bE) (fun z8 h9 z8Z z8E p10 => ?_)
    obtain ⟨eh9, p10⟩ := p10
    subst eh9
    refine N_iast sk_3 cE (by (first | decide +kernel | omega)) d_Rod_iron_35 (fun h11 eh11 => ?_)
    have hI12 : Inv h11 := inv_full hI eh11 rfl
    have f13 : fr S_Rod_ironX h h11 := fr_put f0 eh11 rfl
    refine V_iload d_Rod_iron_36 rfl ?_
    exact V_iret rfl d_Rod_iron_38 ⟨z7, rfl, ⟨hI12, f13, (Or.inl ⟨by (first | decide +kernel | omega), z8, p10, (by rw [eh11] <;> rfl), z7e⟩)⟩⟩
  ·
    refine V_iconst (-1) d_Rod_iron_16 (by decide) ?_
    exact V_iret rfl d_Rod_iron_17 ⟨(-1), rfl, ⟨hI, f0, (Or.inr ⟨by (first | decide +kernel | omega), rfl, tc_m1⟩)⟩⟩
def S_Rod_oddX : List (Nat × Option Nat) := [(4, none)]
abbrev q_Rod_oddX (h : Hp) (c : Int32) (cZ : Int) (v : Int32) (vZ : Int) (w : Int32) (wZ : Int) (g : Int32) (gZ : Int) : Option Value → Hp → Prop := pInt (fun r h' => Inv h' ∧ fr S_Rod_oddX h h' ∧ (Er h h' 4 cZ.toNat (0 ≤ cZ ∧ cZ < wZ * gZ ∧ 0 ≤ vZ ∧ vZ ≤ 10) (fun x => x = v) r))
set_option maxRecDepth 100000 in
theorem c_Rod_oddX (h : Hp) (hI : Inv h) (c : Int32) (cZ : Int) (cE : c.toInt = cZ) (v : Int32) (vZ : Int) (vE : v.toInt = vZ) (w : Int32) (wZ : Int) (wE : w.toInt = wZ) (wK : h.1 1 0 = w) (g : Int32) (gZ : Int) (gE : g.toInt = gZ) (gK : h.1 1 1 = g) : Ct y_Rod_odd b_Rod_odd 5 (some .int) 2 41 [.ref 85, .int c, .int v] h (q_Rod_oddX h c cZ v vZ w wZ g gZ) := by
  refine ct_ow R_Rod [some (.ref 85), some (.int c), some (.int v), none, none] rfl (by decide) rfl (Nat.le_of_ble_eq_true rfl) ?_
  have f0 : fr S_Rod_oddX h h := fr_rf
  have g1 : 2 ≤ wZ ∧ wZ ≤ 4 := inv_at hI wE wK.symm rfl
  have g2 : 2 ≤ gZ ∧ gZ ≤ 4 := inv_at hI gE gK.symm rfl
  refine V_aload_n 0 d_Rod_odd_0 rfl rfl ?_
  refine V_getR fa_Rod_12 sk_85 rfl d_Rod_odd_1 ?_
  refine V_getR fa_Rod_91 sk_0 rfl d_Rod_odd_4 ?_
  refine V_astore_n 3 [some (.ref 85), some (.int c), some (.int v), some (.ref 1), none] d_Rod_odd_7 rfl (by decide) rfl rfl ?_
  refine V_aload_n 3 d_Rod_odd_8 rfl rfl ?_
  refine V_iload_n 1 d_Rod_odd_9 rfl rfl ?_
  refine N_callVI [.int c] [] cv_Rod_124 sk_1 rfl d_Rod_odd_10 rfl (Nat.le_of_ble_eq_true rfl) (by decide) (by decide) (c_Land_hasX_0 h hI c cZ cE w wZ wE wK g gZ gE gK) (fun z3 h4 z3Z z3E p5 => ?_)
  obtain ⟨eh4, p5⟩ := p5
  subst eh4
  refine V_if_eq 26 z3E d_Rod_odd_13 (by decide) (fun c6 => ?_) (fun c6 => ?_)
  ·
    refine V_iconst (-1) d_Rod_odd_26 (by decide) ?_
    exact V_iret rfl d_Rod_odd_27 ⟨(-1), rfl, ⟨hI, f0, (Or.inr ⟨by (first | decide +kernel | omega), rfl, tc_m1⟩)⟩⟩
  ·
    refine V_iload_n 2 d_Rod_odd_16 rfl rfl ?_
    refine V_if_lt 26 vE d_Rod_odd_17 (by decide) (fun c7 => ?_) (fun c7 => ?_)
    ·
      refine V_iconst (-1) d_Rod_odd_26 (by decide) ?_
      exact V_iret rfl d_Rod_odd_27 ⟨(-1), rfl, ⟨hI, f0, (Or.inr ⟨by (first | decide +kernel | omega), rfl, tc_m1⟩)⟩⟩
    ·
      refine V_iload_n 2 d_Rod_odd_20 rfl rfl ?_
      refine V_bipush 10 d_Rod_odd_21 (by decide) ?_
      refine V_icmp_le 28 vE tc_10 d_Rod_odd_23 (by decide) (fun c8 => ?_) (fun c8 => ?_)
      ·
        refine V_aload_n 3 d_Rod_odd_28 rfl rfl ?_
        refine V_getR fa_Rod_135 sk_1 rfl d_Rod_odd_29 ?_
        refine V_iload_n 1 d_Rod_odd_32 rfl rfl ?_
        refine N_iald sk_4 cE (by (first | decide +kernel | omega)) d_Rod_odd_33 (fun z9 z9Z z9E z9e => ?_)
        refine V_istore 4 [some (.ref 85), some (.int c), some (.int v), some (.ref 1), some (.int z9)] d_Rod_odd_34 (by decide) rfl rfl ?_
        refine V_aload_n 3 d_Rod_odd_36 rfl rfl ?_
        refine V_getR fa_Rod_135 sk_1 rfl d_Rod_odd_37 ?_
        refine V_iload_n 1 d_Rod_odd_40 rfl rfl ?_
        refine V_iload_n 2 d_Rod_odd_41 rfl rfl ?_
        refine N_iast sk_4 cE (by (first | decide +kernel | omega)) d_Rod_odd_42 (fun h10 eh10 => ?_)
        have hI11 : Inv h10 := inv_full hI eh10 rfl
        have f12 : fr S_Rod_oddX h h10 := fr_put f0 eh10 rfl
        refine V_iload d_Rod_odd_43 rfl ?_
        exact V_iret rfl d_Rod_odd_45 ⟨z9, rfl, ⟨hI11, f12, (Or.inl ⟨by (first | decide +kernel | omega), v, rfl, (by rw [eh10] <;> rfl), z9e⟩)⟩⟩
      ·
        refine V_iconst (-1) d_Rod_odd_26 (by decide) ?_
        exact V_iret rfl d_Rod_odd_27 ⟨(-1), rfl, ⟨hI, f0, (Or.inr ⟨by (first | decide +kernel | omega), rfl, tc_m1⟩)⟩⟩
def S_Rod_claimX : List (Nat × Option Nat) := [(5, none)]
abbrev q_Rod_claimX (h : Hp) (c : Int32) (cZ : Int) (o : Int32) (oZ : Int) (w : Int32) (wZ : Int) (g : Int32) (gZ : Int) : Option Value → Hp → Prop := pInt (fun r h' => Inv h' ∧ fr S_Rod_claimX h h' ∧ (Er h h' 5 cZ.toNat (0 ≤ cZ ∧ cZ < wZ * gZ ∧ (oZ = -4 ∨ 0 ≤ oZ ∧ oZ ≤ 3)) (fun x => x = o) r))
set_option maxRecDepth 100000 in
theorem c_Rod_claimX (h : Hp) (hI : Inv h) (c : Int32) (cZ : Int) (cE : c.toInt = cZ) (o : Int32) (oZ : Int) (oE : o.toInt = oZ) (w : Int32) (wZ : Int) (wE : w.toInt = wZ) (wK : h.1 1 0 = w) (g : Int32) (gZ : Int) (gE : g.toInt = gZ) (gK : h.1 1 1 = g) : Ct y_Rod_claim b_Rod_claim 5 (some .int) 2 41 [.ref 85, .int c, .int o] h (q_Rod_claimX h c cZ o oZ w wZ g gZ) := by
  refine ct_ow R_Rod [some (.ref 85), some (.int c), some (.int o), none, none] rfl (by decide) rfl (Nat.le_of_ble_eq_true rfl) ?_
  have f0 : fr S_Rod_claimX h h := fr_rf
  have g1 : 2 ≤ wZ ∧ wZ ≤ 4 := inv_at hI wE wK.symm rfl
  have g2 : 2 ≤ gZ ∧ gZ ≤ 4 := inv_at hI gE gK.symm rfl
  refine V_aload_n 0 d_Rod_claim_0 rfl rfl ?_
  refine V_getR fa_Rod_12 sk_85 rfl d_Rod_claim_1 ?_
  refine V_getR fa_Rod_91 sk_0 rfl d_Rod_claim_4 ?_
  refine V_astore_n 3 [some (.ref 85), some (.int c), some (.int o), some (.ref 1), none] d_Rod_claim_7 rfl (by decide) rfl rfl ?_
  refine V_aload_n 3 d_Rod_claim_8 rfl rfl ?_
  refine V_iload_n 1 d_Rod_claim_9 rfl rfl ?_
  refine N_callVI [.int c] [] cv_Rod_124 sk_1 rfl d_Rod_claim_10 rfl (Nat.le_of_ble_eq_true rfl) (by decide) (by decide) (c_Land_hasX_0 h hI c cZ cE w wZ wE wK g gZ gE gK) (fun z3 h4 z3Z z3E p5 => ?_)
  obtain ⟨eh4, p5⟩ := p5
  subst eh4
  refine V_if_eq 29 z3E d_Rod_claim_13 (by decide) (fun c6 => ?_) (fun c6 => ?_)
  ·
    refine V_iconst (-1) d_Rod_claim_29 (by decide) ?_
    exact V_iret rfl d_Rod_claim_30 ⟨(-1), rfl, ⟨hI, f0, (Or.inr ⟨by (first | decide +kernel | omega), rfl, tc_m1⟩)⟩⟩
  ·
    refine V_iload_n 2 d_Rod_claim_16 rfl rfl ?_
    refine V_bipush (-4) d_Rod_claim_17 (by decide) ?_
    refine V_icmp_eq 31 oE tc_m4 d_Rod_claim_19 (by decide) (fun c7 => ?_) (fun c7 => ?_)
    ·
      refine V_aload_n 3 d_Rod_claim_31 rfl rfl ?_
      refine V_getR fa_Rod_138 sk_1 rfl d_Rod_claim_32 ?_
      refine V_iload_n 1 d_Rod_claim_35 rfl rfl ?_
      refine N_iald sk_5 cE (by (first | decide +kernel | omega)) d_Rod_claim_36 (fun z8 z8Z z8E z8e => ?_)
      refine V_istore 4 [some (.ref 85), some (.int c), some (.int o), some (.ref 1), some (.int z8)] d_Rod_claim_37 (by decide) rfl rfl ?_
      refine V_aload_n 3 d_Rod_claim_39 rfl rfl ?_
      refine V_getR fa_Rod_138 sk_1 rfl d_Rod_claim_40 ?_
      refine V_iload_n 1 d_Rod_claim_43 rfl rfl ?_
      refine V_iload_n 2 d_Rod_claim_44 rfl rfl ?_
      refine N_iast sk_5 cE (by (first | decide +kernel | omega)) d_Rod_claim_45 (fun h9 eh9 => ?_)
      have hI10 : Inv h9 := inv_full hI eh9 rfl
      have f11 : fr S_Rod_claimX h h9 := fr_put f0 eh9 rfl
      refine V_iload d_Rod_claim_46 rfl ?_
      exact V_iret rfl d_Rod_claim_48 ⟨z8, rfl, ⟨hI10, f11, (Or.inl ⟨by (first | decide +kernel | omega), o, rfl, (by rw [eh9] <;> rfl), z8e⟩)⟩⟩
    ·
      refine V_iload_n 2 d_Rod_claim_22 rfl rfl ?_
      refine N_callSI [.int o] [] cs_Rod_151 d_Rod_claim_23 rfl (Nat.le_of_ble_eq_true rfl) (by decide) (by decide) (c_Rod_isOwner h o oZ oE) (fun z12 h13 z12Z z12E p14 => ?_)
      obtain ⟨eh13, p14⟩ := p14
      subst eh13
      refine V_if_ne 31 z12E d_Rod_claim_26 (by decide) (fun c15 => ?_) (fun c15 => ?_)
      ·
        refine V_aload_n 3 d_Rod_claim_31 rfl rfl ?_
        refine V_getR fa_Rod_138 sk_1 rfl d_Rod_claim_32 ?_
        refine V_iload_n 1 d_Rod_claim_35 rfl rfl ?_
        refine N_iald sk_5 cE (by (first | decide +kernel | omega)) d_Rod_claim_36 (fun z16 z16Z z16E z16e => ?_)
        refine V_istore 4 [some (.ref 85), some (.int c), some (.int o), some (.ref 1), some (.int z16)] d_Rod_claim_37 (by decide) rfl rfl ?_
        refine V_aload_n 3 d_Rod_claim_39 rfl rfl ?_
        refine V_getR fa_Rod_138 sk_1 rfl d_Rod_claim_40 ?_
        refine V_iload_n 1 d_Rod_claim_43 rfl rfl ?_
        refine V_iload_n 2 d_Rod_claim_44 rfl rfl ?_
        refine N_iast sk_5 cE (by (first | decide +kernel | omega)) d_Rod_claim_45 (fun h17 eh17 => ?_)
        have hI18 : Inv h17 := inv_full hI eh17 rfl
        have f19 : fr S_Rod_claimX h h17 := fr_put f0 eh17 rfl
        refine V_iload d_Rod_claim_46 rfl ?_
        exact V_iret rfl d_Rod_claim_48 ⟨z16, rfl, ⟨hI18, f19, (Or.inl ⟨by (first | decide +kernel | omega), o, rfl, (by rw [eh17] <;> rfl), z16e⟩)⟩⟩
      ·
        refine V_iconst (-1) d_Rod_claim_29 (by decide) ?_
        exact V_iret rfl d_Rod_claim_30 ⟨(-1), rfl, ⟨hI, f0, (Or.inr ⟨by (first | decide +kernel | omega), rfl, tc_m1⟩)⟩⟩
def S_Mod_becomesX : List (Nat × Option Nat) := [(117, none)]
abbrev q_Mod_becomesX (h : Hp) (k : Int32) (kZ : Int) (v : Int32) (vZ : Int) : Option Value → Hp → Prop := pInt (fun r h' => Inv h' ∧ fr S_Mod_becomesX h h' ∧ (h' = pI h 117 kZ.toNat v ∧ r = h.1 117 kZ.toNat))
set_option maxRecDepth 100000 in
theorem c_Mod_becomesX (h : Hp) (hI : Inv h) (k : Int32) (kZ : Int) (kE : k.toInt = kZ) (v : Int32) (vZ : Int) (vE : v.toInt = vZ) (hy0 : 0 ≤ kZ ∧ kZ < 432) (hy1 : stOk kZ vZ) : Ct y_Mod_becomes b_Mod_becomes 4 (some .int) 0 0 [.ref 116, .int k, .int v] h (q_Mod_becomesX h k kZ v vZ) := by
  refine ct_ow R_Mod [some (.ref 116), some (.int k), some (.int v), none] rfl (by decide) rfl (Nat.le_of_ble_eq_true rfl) ?_
  have f0 : fr S_Mod_becomesX h h := fr_rf
  refine V_aload_n 0 d_Mod_becomes_0 rfl rfl ?_
  refine V_getR fa_Mod_7 sk_116 rfl d_Mod_becomes_1 ?_
  refine V_iload_n 1 d_Mod_becomes_4 rfl rfl ?_
  refine N_iald sk_117 kE (by (first | decide +kernel | omega)) d_Mod_becomes_5 (fun z1 z1Z z1E z1e => ?_)
  refine V_istore_n 3 [some (.ref 116), some (.int k), some (.int v), some (.int z1)] d_Mod_becomes_6 rfl (by decide) rfl rfl ?_
  refine V_aload_n 0 d_Mod_becomes_7 rfl rfl ?_
  refine V_getR fa_Mod_7 sk_116 rfl d_Mod_becomes_8 ?_
  refine V_iload_n 1 d_Mod_becomes_11 rfl rfl ?_
  refine V_iload_n 2 d_Mod_becomes_12 rfl rfl ?_
  refine N_iast sk_117 kE (by (first | decide +kernel | omega)) d_Mod_becomes_13 (fun h2 eh2 => ?_)
  have hI3 : Inv h2 := inv_st hI eh2 (Or.inl rfl) vE hy1
  have f4 : fr S_Mod_becomesX h h2 := fr_put f0 eh2 rfl
  refine V_iload_n 3 d_Mod_becomes_14 rfl rfl ?_
  exact V_iret rfl d_Mod_becomes_15 ⟨z1, rfl, ⟨hI3, f4, ⟨(by rw [eh2] <;> rfl), z1e⟩⟩⟩
def S_Mod_ironX : List (Nat × Option Nat) := [(117, none)]
abbrev q_Mod_ironX (h : Hp) (c : Int32) (cZ : Int) (b : Int32) (bZ : Int) (w : Int32) (wZ : Int) (g : Int32) (gZ : Int) : Option Value → Hp → Prop := pInt (fun r h' => Inv h' ∧ fr S_Mod_ironX h h' ∧ (Er h h' 117 (16 + cZ).toNat (0 ≤ cZ ∧ cZ < wZ * gZ) (fun x => bZ ≠ 0 ∧ x.toInt = 1 ∨ bZ = 0 ∧ x.toInt = 0) r))
set_option maxRecDepth 100000 in
theorem c_Mod_ironX (h : Hp) (hI : Inv h) (c : Int32) (cZ : Int) (cE : c.toInt = cZ) (b : Int32) (bZ : Int) (bE : b.toInt = bZ) (w : Int32) (wZ : Int) (wE : w.toInt = wZ) (wK : h.1 116 2 = w) (g : Int32) (gZ : Int) (gE : g.toInt = gZ) (gK : h.1 116 3 = g) : Ct y_Mod_iron b_Mod_iron 3 (some .int) 2 46 [.ref 116, .int c, .int b] h (q_Mod_ironX h c cZ b bZ w wZ g gZ) := by
  refine ct_ow R_Mod [some (.ref 116), some (.int c), some (.int b)] rfl (by decide) rfl (Nat.le_of_ble_eq_true rfl) ?_
  have f0 : fr S_Mod_ironX h h := fr_rf
  have g1 : 2 ≤ wZ ∧ wZ ≤ 4 := inv_at hI wE wK.symm rfl
  have g2 : 2 ≤ gZ ∧ gZ ≤ 4 := inv_at hI gE gK.symm rfl
  refine V_aload_n 0 d_Mod_iron_0 rfl rfl ?_
  refine V_iload_n 1 d_Mod_iron_1 rfl rfl ?_
  refine N_callVI [.int c] [] cv_Mod_200 sk_116 rfl d_Mod_iron_2 rfl (Nat.le_of_ble_eq_true rfl) (by decide) (by decide) (c_Mod_isCellX h hI c cZ cE w wZ wE wK g gZ gE gK) (fun z3 h4 z3Z z3E p5 => ?_)
  obtain ⟨eh4, p5⟩ := p5
  subst eh4
  refine V_if_eq 23 z3E d_Mod_iron_5 (by decide) (fun c6 => ?_) (fun c6 => ?_)
  ·
    refine V_iconst (-1) d_Mod_iron_23 (by decide) ?_
    exact V_iret rfl d_Mod_iron_24 ⟨(-1), rfl, ⟨hI, f0, (Or.inr ⟨by (first | decide +kernel | omega), rfl, tc_m1⟩)⟩⟩
  ·
    refine V_aload_n 0 d_Mod_iron_8 rfl rfl ?_
    refine V_bipush 16 d_Mod_iron_9 (by decide) ?_
    refine V_iload_n 1 d_Mod_iron_11 rfl rfl ?_
    refine V_iadd tc_16 cE (by (first | decide +kernel | omega)) d_Mod_iron_12 (fun z7 z7e z7E => ?_)
    refine V_iload_n 2 d_Mod_iron_13 rfl rfl ?_
    refine N_callSI [.int b] [.int z7, .ref 116] cs_Mod_196 d_Mod_iron_14 rfl (Nat.le_of_ble_eq_true rfl) (by decide) (by decide) (c_Mod_flag h b bZ bE) (fun z8 h9 z8Z z8E p10 => ?_)
    obtain ⟨eh9, p10⟩ := p10
    subst eh9
    refine N_callVI [.int z7, .int z8] [] cv_Mod_210 sk_116 rfl d_Mod_iron_17 rfl (Nat.le_of_ble_eq_true rfl) (by decide) (by decide) (c_Mod_becomesX h hI z7 ((16 + cZ)) z7E z8 z8Z z8E (by (first | decide +kernel | omega)) (stOk_lo z8E (by (first | decide +kernel | omega)))) (fun z11 h12 z11Z z11E p13 => ?_)
    obtain ⟨hI14, fh12, p13⟩ := p13
    have f15 : fr S_Mod_ironX h h12 := fr_call f0 fh12 rfl
    refine V_goto 24 d_Mod_iron_20 (by decide) ?_
    exact V_iret rfl d_Mod_iron_24 ⟨z11, rfl, ⟨hI14, f15, (Or.inl ⟨by (first | decide +kernel | omega), z8, p10, p13.1, p13.2⟩)⟩⟩
def S_Mod_oddX : List (Nat × Option Nat) := [(117, none)]
abbrev q_Mod_oddX (h : Hp) (c : Int32) (cZ : Int) (v : Int32) (vZ : Int) (w : Int32) (wZ : Int) (g : Int32) (gZ : Int) : Option Value → Hp → Prop := pInt (fun r h' => Inv h' ∧ fr S_Mod_oddX h h' ∧ (Er h h' 117 (32 + cZ).toNat (0 ≤ cZ ∧ cZ < wZ * gZ ∧ 0 ≤ vZ ∧ vZ ≤ 10) (fun x => x = v) r))
set_option maxRecDepth 100000 in
theorem c_Mod_oddX (h : Hp) (hI : Inv h) (c : Int32) (cZ : Int) (cE : c.toInt = cZ) (v : Int32) (vZ : Int) (vE : v.toInt = vZ) (w : Int32) (wZ : Int) (wE : w.toInt = wZ) (wK : h.1 116 2 = w) (g : Int32) (gZ : Int) (gE : g.toInt = gZ) (gK : h.1 116 3 = g) : Ct y_Mod_odd b_Mod_odd 3 (some .int) 2 46 [.ref 116, .int c, .int v] h (q_Mod_oddX h c cZ v vZ w wZ g gZ) := by
  refine ct_ow R_Mod [some (.ref 116), some (.int c), some (.int v)] rfl (by decide) rfl (Nat.le_of_ble_eq_true rfl) ?_
  have f0 : fr S_Mod_oddX h h := fr_rf
  have g1 : 2 ≤ wZ ∧ wZ ≤ 4 := inv_at hI wE wK.symm rfl
  have g2 : 2 ≤ gZ ∧ gZ ≤ 4 := inv_at hI gE gK.symm rfl
  refine V_aload_n 0 d_Mod_odd_0 rfl rfl ?_
  refine V_iload_n 1 d_Mod_odd_1 rfl rfl ?_
  refine N_callVI [.int c] [] cv_Mod_200 sk_116 rfl d_Mod_odd_2 rfl (Nat.le_of_ble_eq_true rfl) (by decide) (by decide) (c_Mod_isCellX h hI c cZ cE w wZ wE wK g gZ gE gK) (fun z3 h4 z3Z z3E p5 => ?_)
  obtain ⟨eh4, p5⟩ := p5
  subst eh4
  refine V_if_eq 32 z3E d_Mod_odd_5 (by decide) (fun c6 => ?_) (fun c6 => ?_)
  ·
    refine V_iconst (-1) d_Mod_odd_32 (by decide) ?_
    exact V_iret rfl d_Mod_odd_33 ⟨(-1), rfl, ⟨hI, f0, (Or.inr ⟨by (first | decide +kernel | omega), rfl, tc_m1⟩)⟩⟩
  ·
    refine V_iload_n 2 d_Mod_odd_8 rfl rfl ?_
    refine V_i2l d_Mod_odd_9 (fun z7 z7e z7E => ?_)
    have z7F : z7.toInt = vZ := z7E.trans vE
    refine V_lconst 0 d_Mod_odd_10 (by decide) ?_
    refine V_ldc2 d_Mod_odd_11 wl_Mod_213 ?_
    refine N_callSI [.long z7, .long 0, .long 10] [] cs_Mod_95 d_Mod_odd_14 rfl (Nat.le_of_ble_eq_true rfl) (by decide) (by decide) (c_Mod_in h z7 vZ z7F 0 0 tl_0 10 10 tl_10) (fun z8 h9 z8Z z8E p10 => ?_)
    obtain ⟨eh9, p10⟩ := p10
    subst eh9
    refine V_if_eq 32 z8E d_Mod_odd_17 (by decide) (fun c11 => ?_) (fun c11 => ?_)
    ·
      refine V_iconst (-1) d_Mod_odd_32 (by decide) ?_
      exact V_iret rfl d_Mod_odd_33 ⟨(-1), rfl, ⟨hI, f0, (Or.inr ⟨by (first | decide +kernel | omega), rfl, tc_m1⟩)⟩⟩
    ·
      refine V_aload_n 0 d_Mod_odd_20 rfl rfl ?_
      refine V_bipush 32 d_Mod_odd_21 (by decide) ?_
      refine V_iload_n 1 d_Mod_odd_23 rfl rfl ?_
      refine V_iadd tc_32 cE (by (first | decide +kernel | omega)) d_Mod_odd_24 (fun z12 z12e z12E => ?_)
      refine V_iload_n 2 d_Mod_odd_25 rfl rfl ?_
      refine N_callVI [.int z12, .int v] [] cv_Mod_210 sk_116 rfl d_Mod_odd_26 rfl (Nat.le_of_ble_eq_true rfl) (by decide) (by decide) (c_Mod_becomesX h hI z12 ((32 + cZ)) z12E v vZ vE (by (first | decide +kernel | omega)) (stOk_lo vE (by (first | decide +kernel | omega)))) (fun z13 h14 z13Z z13E p15 => ?_)
      obtain ⟨hI16, fh14, p15⟩ := p15
      have f17 : fr S_Mod_oddX h h14 := fr_call f0 fh14 rfl
      refine V_goto 33 d_Mod_odd_29 (by decide) ?_
      exact V_iret rfl d_Mod_odd_33 ⟨z13, rfl, ⟨hI16, f17, (Or.inl ⟨by (first | decide +kernel | omega), v, rfl, p15.1, p15.2⟩)⟩⟩
def S_Mod_claimX : List (Nat × Option Nat) := [(117, none)]
abbrev q_Mod_claimX (h : Hp) (c : Int32) (cZ : Int) (o : Int32) (oZ : Int) (w : Int32) (wZ : Int) (g : Int32) (gZ : Int) : Option Value → Hp → Prop := pInt (fun r h' => Inv h' ∧ fr S_Mod_claimX h h' ∧ (Er h h' 117 (48 + cZ).toNat (0 ≤ cZ ∧ cZ < wZ * gZ ∧ (oZ = -4 ∨ 0 ≤ oZ ∧ oZ ≤ 3)) (fun x => x = o) r))
set_option maxRecDepth 100000 in
theorem c_Mod_claimX (h : Hp) (hI : Inv h) (c : Int32) (cZ : Int) (cE : c.toInt = cZ) (o : Int32) (oZ : Int) (oE : o.toInt = oZ) (w : Int32) (wZ : Int) (wE : w.toInt = wZ) (wK : h.1 116 2 = w) (g : Int32) (gZ : Int) (gE : g.toInt = gZ) (gK : h.1 116 3 = g) : Ct y_Mod_claim b_Mod_claim 3 (some .int) 2 46 [.ref 116, .int c, .int o] h (q_Mod_claimX h c cZ o oZ w wZ g gZ) := by
  refine ct_ow R_Mod [some (.ref 116), some (.int c), some (.int o)] rfl (by decide) rfl (Nat.le_of_ble_eq_true rfl) ?_
  have f0 : fr S_Mod_claimX h h := fr_rf
  have g1 : 2 ≤ wZ ∧ wZ ≤ 4 := inv_at hI wE wK.symm rfl
  have g2 : 2 ≤ gZ ∧ gZ ≤ 4 := inv_at hI gE gK.symm rfl
  refine V_aload_n 0 d_Mod_claim_0 rfl rfl ?_
  refine V_iload_n 1 d_Mod_claim_1 rfl rfl ?_
  refine N_callVI [.int c] [] cv_Mod_200 sk_116 rfl d_Mod_claim_2 rfl (Nat.le_of_ble_eq_true rfl) (by decide) (by decide) (c_Mod_isCellX h hI c cZ cE w wZ wE wK g gZ gE gK) (fun z3 h4 z3Z z3E p5 => ?_)
  obtain ⟨eh4, p5⟩ := p5
  subst eh4
  refine V_if_eq 33 z3E d_Mod_claim_5 (by decide) (fun c6 => ?_) (fun c6 => ?_)
  ·
    refine V_iconst (-1) d_Mod_claim_33 (by decide) ?_
    exact V_iret rfl d_Mod_claim_34 ⟨(-1), rfl, ⟨hI, f0, (Or.inr ⟨by (first | decide +kernel | omega), rfl, tc_m1⟩)⟩⟩
  ·
    refine V_iload_n 2 d_Mod_claim_8 rfl rfl ?_
    refine V_bipush (-4) d_Mod_claim_9 (by decide) ?_
    refine V_icmp_eq 21 oE tc_m4 d_Mod_claim_11 (by decide) (fun c7 => ?_) (fun c7 => ?_)
    ·
      refine V_aload_n 0 d_Mod_claim_21 rfl rfl ?_
      refine V_bipush 48 d_Mod_claim_22 (by decide) ?_
      refine V_iload_n 1 d_Mod_claim_24 rfl rfl ?_
      refine V_iadd tc_48 cE (by (first | decide +kernel | omega)) d_Mod_claim_25 (fun z8 z8e z8E => ?_)
      refine V_iload_n 2 d_Mod_claim_26 rfl rfl ?_
      refine N_callVI [.int z8, .int o] [] cv_Mod_210 sk_116 rfl d_Mod_claim_27 rfl (Nat.le_of_ble_eq_true rfl) (by decide) (by decide) (c_Mod_becomesX h hI z8 ((48 + cZ)) z8E o oZ oE (by (first | decide +kernel | omega)) (stOk_lo oE (by (first | decide +kernel | omega)))) (fun z9 h10 z9Z z9E p11 => ?_)
      obtain ⟨hI12, fh10, p11⟩ := p11
      have f13 : fr S_Mod_claimX h h10 := fr_call f0 fh10 rfl
      refine V_goto 34 d_Mod_claim_30 (by decide) ?_
      exact V_iret rfl d_Mod_claim_34 ⟨z9, rfl, ⟨hI12, f13, (Or.inl ⟨by (first | decide +kernel | omega), o, rfl, p11.1, p11.2⟩)⟩⟩
    ·
      refine V_iload_n 2 d_Mod_claim_14 rfl rfl ?_
      refine N_callSI [.int o] [] cs_Mod_205 d_Mod_claim_15 rfl (Nat.le_of_ble_eq_true rfl) (by decide) (by decide) (c_Mod_isOwner h o oZ oE) (fun z14 h15 z14Z z14E p16 => ?_)
      obtain ⟨eh15, p16⟩ := p16
      subst eh15
      refine V_if_eq 33 z14E d_Mod_claim_18 (by decide) (fun c17 => ?_) (fun c17 => ?_)
      ·
        refine V_iconst (-1) d_Mod_claim_33 (by decide) ?_
        exact V_iret rfl d_Mod_claim_34 ⟨(-1), rfl, ⟨hI, f0, (Or.inr ⟨by (first | decide +kernel | omega), rfl, tc_m1⟩)⟩⟩
      ·
        refine V_aload_n 0 d_Mod_claim_21 rfl rfl ?_
        refine V_bipush 48 d_Mod_claim_22 (by decide) ?_
        refine V_iload_n 1 d_Mod_claim_24 rfl rfl ?_
        refine V_iadd tc_48 cE (by (first | decide +kernel | omega)) d_Mod_claim_25 (fun z18 z18e z18E => ?_)
        refine V_iload_n 2 d_Mod_claim_26 rfl rfl ?_
        refine N_callVI [.int z18, .int o] [] cv_Mod_210 sk_116 rfl d_Mod_claim_27 rfl (Nat.le_of_ble_eq_true rfl) (by decide) (by decide) (c_Mod_becomesX h hI z18 ((48 + cZ)) z18E o oZ oE (by (first | decide +kernel | omega)) (stOk_lo oE (by (first | decide +kernel | omega)))) (fun z19 h20 z19Z z19E p21 => ?_)
        obtain ⟨hI22, fh20, p21⟩ := p21
        have f23 : fr S_Mod_claimX h h20 := fr_call f0 fh20 rfl
        refine V_goto 34 d_Mod_claim_30 (by decide) ?_
        exact V_iret rfl d_Mod_claim_34 ⟨z19, rfl, ⟨hI22, f23, (Or.inl ⟨by (first | decide +kernel | omega), o, rfl, p21.1, p21.2⟩)⟩⟩
def S_Rod_cutX : List (Nat × Option Nat) := [(0, some 3), (0, some 4)]
abbrev q_Rod_cutX (h : Hp) (n : Int32) (nZ : Int) (v : Int32) (vZ : Int) (t : Int32) (tZ : Int) : Option Value → Hp → Prop := pInt (fun r h' => Inv h' ∧ fr S_Rod_cutX h h' ∧ (Ew h h' (0 ≤ nZ ∧ nZ ≤ 4 ∧ 1 ≤ vZ ∧ vZ ≤ 9) (pI (pI h 0 3 n) 0 4 v) t r))
set_option maxRecDepth 100000 in
theorem c_Rod_cutX (h : Hp) (hI : Inv h) (n : Int32) (nZ : Int) (nE : n.toInt = nZ) (v : Int32) (vZ : Int) (vE : v.toInt = vZ) (t : Int32) (tZ : Int) (tE : t.toInt = tZ) (tK : h.1 0 3 = t) : Ct y_Rod_cut b_Rod_cut 4 (some .int) 1 20 [.ref 85, .int n, .int v] h (q_Rod_cutX h n nZ v vZ t tZ) := by
  refine ct_ow R_Rod [some (.ref 85), some (.int n), some (.int v), none] rfl (by decide) rfl (Nat.le_of_ble_eq_true rfl) ?_
  have f0 : fr S_Rod_cutX h h := fr_rf
  refine V_iload_n 1 d_Rod_cut_0 rfl rfl ?_
  refine N_callSI [.int n] [] cs_Rod_157 d_Rod_cut_1 rfl (Nat.le_of_ble_eq_true rfl) (by decide) (by decide) (c_Rod_isNature h n nZ nE) (fun z1 h2 z1Z z1E p3 => ?_)
  obtain ⟨eh2, p3⟩ := p3
  subst eh2
  refine V_if_eq 18 z1E d_Rod_cut_4 (by decide) (fun c4 => ?_) (fun c4 => ?_)
  ·
    refine V_iconst (-1) d_Rod_cut_18 (by decide) ?_
    exact V_iret rfl d_Rod_cut_19 ⟨(-1), rfl, ⟨hI, f0, (Or.inr ⟨by (first | decide +kernel | omega), rfl, tc_m1⟩)⟩⟩
  ·
    refine V_iload_n 2 d_Rod_cut_7 rfl rfl ?_
    refine V_iconst 1 d_Rod_cut_8 (by decide) ?_
    refine V_icmp_lt 18 vE tc_1 d_Rod_cut_9 (by decide) (fun c5 => ?_) (fun c5 => ?_)
    ·
      refine V_iconst (-1) d_Rod_cut_18 (by decide) ?_
      exact V_iret rfl d_Rod_cut_19 ⟨(-1), rfl, ⟨hI, f0, (Or.inr ⟨by (first | decide +kernel | omega), rfl, tc_m1⟩)⟩⟩
    ·
      refine V_iload_n 2 d_Rod_cut_12 rfl rfl ?_
      refine V_bipush 9 d_Rod_cut_13 (by decide) ?_
      refine V_icmp_le 20 vE tc_9 d_Rod_cut_15 (by decide) (fun c6 => ?_) (fun c6 => ?_)
      ·
        refine V_aload_n 0 d_Rod_cut_20 rfl rfl ?_
        refine V_getR fa_Rod_12 sk_85 rfl d_Rod_cut_21 ?_
        refine N_getK fa_Rod_109 sk_0 rfl d_Rod_cut_24 tK ?_
        refine V_istore_n 3 [some (.ref 85), some (.int n), some (.int v), some (.int t)] d_Rod_cut_27 rfl (by decide) rfl rfl ?_
        refine V_aload_n 0 d_Rod_cut_28 rfl rfl ?_
        refine V_getR fa_Rod_12 sk_85 rfl d_Rod_cut_29 ?_
        refine V_iload_n 1 d_Rod_cut_32 rfl rfl ?_
        refine N_putI fp_Rod_109 sk_0 rfl d_Rod_cut_33 (fun h7 eh7 => ?_)
        have hI8 : Inv h7 := inv_full hI eh7 rfl
        have f9 : fr S_Rod_cutX h h7 := fr_put f0 eh7 rfl
        refine V_aload_n 0 d_Rod_cut_36 rfl rfl ?_
        refine V_getR fa_Rod_12 sk_85 rfl d_Rod_cut_37 ?_
        refine V_iload_n 2 d_Rod_cut_40 rfl rfl ?_
        refine N_putI fp_Rod_112 sk_0 rfl d_Rod_cut_41 (fun h10 eh10 => ?_)
        have hI11 : Inv h10 := inv_full hI8 eh10 rfl
        have f12 : fr S_Rod_cutX h h10 := fr_put f9 eh10 rfl
        refine V_iload_n 3 d_Rod_cut_44 rfl rfl ?_
        exact V_iret rfl d_Rod_cut_45 ⟨t, rfl, ⟨hI11, f12, (Or.inl ⟨by (first | decide +kernel | omega), (by rw [eh10, eh7] <;> rfl), rfl⟩)⟩⟩
      ·
        refine V_iconst (-1) d_Rod_cut_18 (by decide) ?_
        exact V_iret rfl d_Rod_cut_19 ⟨(-1), rfl, ⟨hI, f0, (Or.inr ⟨by (first | decide +kernel | omega), rfl, tc_m1⟩)⟩⟩
def S_Mod_cutX : List (Nat × Option Nat) := [(117, none)]
abbrev q_Mod_cutX (h : Hp) (n : Int32) (nZ : Int) (v : Int32) (vZ : Int) (t : Int32) (tZ : Int) : Option Value → Hp → Prop := pInt (fun r h' => Inv h' ∧ fr S_Mod_cutX h h' ∧ (Ew h h' (0 ≤ nZ ∧ nZ ≤ 4 ∧ 1 ≤ vZ ∧ vZ ≤ 9) (pI (pI h 117 85 v) 117 84 n) t r))
set_option maxRecDepth 100000 in
theorem c_Mod_cutX (h : Hp) (hI : Inv h) (n : Int32) (nZ : Int) (nE : n.toInt = nZ) (v : Int32) (vZ : Int) (vE : v.toInt = vZ) (t : Int32) (tZ : Int) (tE : t.toInt = tZ) (tK : h.1 117 84 = t) : Ct y_Mod_cut b_Mod_cut 3 (some .int) 1 25 [.ref 116, .int n, .int v] h (q_Mod_cutX h n nZ v vZ t tZ) := by
  refine ct_ow R_Mod [some (.ref 116), some (.int n), some (.int v)] rfl (by decide) rfl (Nat.le_of_ble_eq_true rfl) ?_
  have f0 : fr S_Mod_cutX h h := fr_rf
  refine V_iload_n 1 d_Mod_cut_0 rfl rfl ?_
  refine V_i2l d_Mod_cut_1 (fun z1 z1e z1E => ?_)
  have z1F : z1.toInt = nZ := z1E.trans nE
  refine V_lconst 0 d_Mod_cut_2 (by decide) ?_
  refine V_ldc2 d_Mod_cut_3 wl_Mod_217 ?_
  refine N_callSI [.long z1, .long 0, .long 4] [] cs_Mod_95 d_Mod_cut_6 rfl (Nat.le_of_ble_eq_true rfl) (by decide) (by decide) (c_Mod_in h z1 nZ z1F 0 0 tl_0 4 4 tl_4) (fun z2 h3 z2Z z2E p4 => ?_)
  obtain ⟨eh3, p4⟩ := p4
  subst eh3
  refine V_if_eq 24 z2E d_Mod_cut_9 (by decide) (fun c5 => ?_) (fun c5 => ?_)
  ·
    refine V_iconst (-1) d_Mod_cut_24 (by decide) ?_
    exact V_iret rfl d_Mod_cut_25 ⟨(-1), rfl, ⟨hI, f0, (Or.inr ⟨by (first | decide +kernel | omega), rfl, tc_m1⟩)⟩⟩
  ·
    refine V_iload_n 2 d_Mod_cut_12 rfl rfl ?_
    refine V_i2l d_Mod_cut_13 (fun z6 z6e z6E => ?_)
    have z6F : z6.toInt = vZ := z6E.trans vE
    refine V_lconst 1 d_Mod_cut_14 (by decide) ?_
    refine V_ldc2 d_Mod_cut_15 wl_Mod_208 ?_
    refine N_callSI [.long z6, .long 1, .long 9] [] cs_Mod_95 d_Mod_cut_18 rfl (Nat.le_of_ble_eq_true rfl) (by decide) (by decide) (c_Mod_in h z6 vZ z6F 1 1 tl_1 9 9 tl_9) (fun z7 h8 z7Z z7E p9 => ?_)
    obtain ⟨eh8, p9⟩ := p9
    subst eh8
    refine V_if_ne 26 z7E d_Mod_cut_21 (by decide) (fun c10 => ?_) (fun c10 => ?_)
    ·
      refine V_aload_n 0 d_Mod_cut_26 rfl rfl ?_
      refine V_getR fa_Mod_7 sk_116 rfl d_Mod_cut_27 ?_
      refine V_bipush 85 d_Mod_cut_30 (by decide) ?_
      refine V_iload_n 2 d_Mod_cut_32 rfl rfl ?_
      refine N_iast sk_117 tc_85 (by (first | decide +kernel | omega)) d_Mod_cut_33 (fun h11 eh11 => ?_)
      have hI12 : Inv h11 := inv_full hI eh11 rfl
      have f13 : fr S_Mod_cutX h h11 := fr_put f0 eh11 rfl
      refine V_aload_n 0 d_Mod_cut_34 rfl rfl ?_
      refine V_bipush 84 d_Mod_cut_35 (by decide) ?_
      refine V_iload_n 1 d_Mod_cut_37 rfl rfl ?_
      refine N_callVI [.int 84, .int n] [] cv_Mod_210 sk_116 rfl d_Mod_cut_38 rfl (Nat.le_of_ble_eq_true rfl) (by decide) (by decide) (c_Mod_becomesX h11 hI12 84 84 tc_84 n nZ nE (by (first | decide +kernel | omega)) (stOk_lo nE (by (first | decide +kernel | omega)))) (fun z14 h15 z14Z z14E p16 => ?_)
      obtain ⟨hI17, fh15, p16⟩ := p16
      have f18 : fr S_Mod_cutX h h15 := fr_call f13 fh15 rfl
      exact V_iret rfl d_Mod_cut_41 ⟨z14, rfl, ⟨hI17, f18, (Or.inl ⟨by (first | decide +kernel | omega), p16.1.trans (by rw [eh11]; rfl), p16.2.trans (by rw [eh11, pI_at, if_neg (by decide)]; exact tK)⟩)⟩⟩
    ·
      refine V_iconst (-1) d_Mod_cut_24 (by decide) ?_
      exact V_iret rfl d_Mod_cut_25 ⟨(-1), rfl, ⟨hI, f0, (Or.inr ⟨by (first | decide +kernel | omega), rfl, tc_m1⟩)⟩⟩
def S_Rod_payX : List (Nat × Option Nat) := [(7, some 4)]
abbrev q_Rod_payX (h : Hp) (n : Int32) (nZ : Int) (t : Int32) (tZ : Int) : Option Value → Hp → Prop := pInt (fun r h' => Inv h' ∧ fr S_Rod_payX h h' ∧ (Ew h h' (0 ≤ nZ ∧ nZ ≤ tZ) (pI h 7 4 n) t r))
set_option maxRecDepth 100000 in
theorem c_Rod_payX (h : Hp) (hI : Inv h) (n : Int32) (nZ : Int) (nE : n.toInt = nZ) (t : Int32) (tZ : Int) (tE : t.toInt = tZ) (tK : h.1 7 4 = t) : Ct y_Rod_pay b_Rod_pay 3 (some .int) 0 0 [.ref 85, .int n] h (q_Rod_payX h n nZ t tZ) := by
  refine ct_ow R_Rod [some (.ref 85), some (.int n), none] rfl (by decide) rfl (Nat.le_of_ble_eq_true rfl) ?_
  have f0 : fr S_Rod_payX h h := fr_rf
  have g1 : 0 ≤ tZ ∧ tZ ≤ 8 := inv_at hI tE tK.symm rfl
  refine V_aload_n 0 d_Rod_pay_0 rfl rfl ?_
  refine V_getR fa_Rod_12 sk_85 rfl d_Rod_pay_1 ?_
  refine V_getR fa_Rod_115 sk_0 rfl d_Rod_pay_4 ?_
  refine N_getK fa_Rod_119 sk_7 rfl d_Rod_pay_7 tK ?_
  refine V_istore_n 2 [some (.ref 85), some (.int n), some (.int t)] d_Rod_pay_10 rfl (by decide) rfl rfl ?_
  refine V_iload_n 1 d_Rod_pay_11 rfl rfl ?_
  refine V_if_lt 20 nE d_Rod_pay_12 (by decide) (fun c2 => ?_) (fun c2 => ?_)
  ·
    refine V_iconst (-1) d_Rod_pay_20 (by decide) ?_
    exact V_iret rfl d_Rod_pay_21 ⟨(-1), rfl, ⟨hI, f0, (Or.inr ⟨by (first | decide +kernel | omega), rfl, tc_m1⟩)⟩⟩
  ·
    refine V_iload_n 1 d_Rod_pay_15 rfl rfl ?_
    refine V_iload_n 2 d_Rod_pay_16 rfl rfl ?_
    refine V_icmp_le 22 nE tE d_Rod_pay_17 (by decide) (fun c3 => ?_) (fun c3 => ?_)
    ·
      refine V_aload_n 0 d_Rod_pay_22 rfl rfl ?_
      refine V_getR fa_Rod_12 sk_85 rfl d_Rod_pay_23 ?_
      refine V_getR fa_Rod_115 sk_0 rfl d_Rod_pay_26 ?_
      refine V_iload_n 1 d_Rod_pay_29 rfl rfl ?_
      refine N_putI fp_Rod_119 sk_7 rfl d_Rod_pay_30 (fun h4 eh4 => ?_)
      have hI5 : Inv h4 := inv_put (lo := 0) (hi := 8) hI eh4 rfl nE (by (first | decide +kernel | omega))
      have f6 : fr S_Rod_payX h h4 := fr_put f0 eh4 rfl
      refine V_iload_n 2 d_Rod_pay_33 rfl rfl ?_
      exact V_iret rfl d_Rod_pay_34 ⟨t, rfl, ⟨hI5, f6, (Or.inl ⟨by (first | decide +kernel | omega), (by rw [eh4] <;> rfl), rfl⟩)⟩⟩
    ·
      refine V_iconst (-1) d_Rod_pay_20 (by decide) ?_
      exact V_iret rfl d_Rod_pay_21 ⟨(-1), rfl, ⟨hI, f0, (Or.inr ⟨by (first | decide +kernel | omega), rfl, tc_m1⟩)⟩⟩
def S_Rod_forgetX : List (Nat × Option Nat) := [(12, some 4)]
abbrev q_Rod_forgetX (h : Hp) (n : Int32) (nZ : Int) (t : Int32) (tZ : Int) : Option Value → Hp → Prop := pInt (fun r h' => Inv h' ∧ fr S_Rod_forgetX h h' ∧ (Ew h h' (0 ≤ nZ ∧ nZ ≤ tZ) (pI h 12 4 n) t r))
set_option maxRecDepth 100000 in
theorem c_Rod_forgetX (h : Hp) (hI : Inv h) (n : Int32) (nZ : Int) (nE : n.toInt = nZ) (t : Int32) (tZ : Int) (tE : t.toInt = tZ) (tK : h.1 12 4 = t) : Ct y_Rod_forget b_Rod_forget 3 (some .int) 0 0 [.ref 85, .int n] h (q_Rod_forgetX h n nZ t tZ) := by
  refine ct_ow R_Rod [some (.ref 85), some (.int n), none] rfl (by decide) rfl (Nat.le_of_ble_eq_true rfl) ?_
  have f0 : fr S_Rod_forgetX h h := fr_rf
  have g1 : 0 ≤ tZ ∧ tZ ≤ 8 := inv_at hI tE tK.symm rfl
  refine V_aload_n 0 d_Rod_forget_0 rfl rfl ?_
  refine V_getR fa_Rod_12 sk_85 rfl d_Rod_forget_1 ?_
  refine V_getR fa_Rod_178 sk_0 rfl d_Rod_forget_4 ?_
  refine N_getK fa_Rod_182 sk_12 rfl d_Rod_forget_7 tK ?_
  refine V_istore_n 2 [some (.ref 85), some (.int n), some (.int t)] d_Rod_forget_10 rfl (by decide) rfl rfl ?_
  refine V_iload_n 1 d_Rod_forget_11 rfl rfl ?_
  refine V_if_lt 20 nE d_Rod_forget_12 (by decide) (fun c2 => ?_) (fun c2 => ?_)
  ·
    refine V_iconst (-1) d_Rod_forget_20 (by decide) ?_
    exact V_iret rfl d_Rod_forget_21 ⟨(-1), rfl, ⟨hI, f0, (Or.inr ⟨by (first | decide +kernel | omega), rfl, tc_m1⟩)⟩⟩
  ·
    refine V_iload_n 1 d_Rod_forget_15 rfl rfl ?_
    refine V_iload_n 2 d_Rod_forget_16 rfl rfl ?_
    refine V_icmp_le 22 nE tE d_Rod_forget_17 (by decide) (fun c3 => ?_) (fun c3 => ?_)
    ·
      refine V_aload_n 0 d_Rod_forget_22 rfl rfl ?_
      refine V_getR fa_Rod_12 sk_85 rfl d_Rod_forget_23 ?_
      refine V_getR fa_Rod_178 sk_0 rfl d_Rod_forget_26 ?_
      refine V_iload_n 1 d_Rod_forget_29 rfl rfl ?_
      refine N_putI fp_Rod_182 sk_12 rfl d_Rod_forget_30 (fun h4 eh4 => ?_)
      have hI5 : Inv h4 := inv_put (lo := 0) (hi := 8) hI eh4 rfl nE (by (first | decide +kernel | omega))
      have f6 : fr S_Rod_forgetX h h4 := fr_put f0 eh4 rfl
      refine V_iload_n 2 d_Rod_forget_33 rfl rfl ?_
      exact V_iret rfl d_Rod_forget_34 ⟨t, rfl, ⟨hI5, f6, (Or.inl ⟨by (first | decide +kernel | omega), (by rw [eh4] <;> rfl), rfl⟩)⟩⟩
    ·
      refine V_iconst (-1) d_Rod_forget_20 (by decide) ?_
      exact V_iret rfl d_Rod_forget_21 ⟨(-1), rfl, ⟨hI, f0, (Or.inr ⟨by (first | decide +kernel | omega), rfl, tc_m1⟩)⟩⟩
def S_Mod_payX : List (Nat × Option Nat) := [(117, none)]
abbrev q_Mod_payX (h : Hp) (n : Int32) (nZ : Int) (t : Int32) (tZ : Int) : Option Value → Hp → Prop := pInt (fun r h' => Inv h' ∧ fr S_Mod_payX h h' ∧ (Ew h h' (0 ≤ nZ ∧ nZ ≤ tZ) (pI h 117 86 n) t r))
set_option maxRecDepth 100000 in
theorem c_Mod_payX (h : Hp) (hI : Inv h) (n : Int32) (nZ : Int) (nE : n.toInt = nZ) (t : Int32) (tZ : Int) (tE : t.toInt = tZ) (tK : h.1 117 86 = t) : Ct y_Mod_pay b_Mod_pay 2 (some .int) 1 25 [.ref 116, .int n] h (q_Mod_payX h n nZ t tZ) := by
  refine ct_ow R_Mod [some (.ref 116), some (.int n)] rfl (by decide) rfl (Nat.le_of_ble_eq_true rfl) ?_
  have f0 : fr S_Mod_payX h h := fr_rf
  have tB : 0 ≤ tZ ∧ tZ ≤ 8 := inv_at hI tE tK.symm rfl
  refine V_iload_n 1 d_Mod_pay_0 rfl rfl ?_
  refine V_i2l d_Mod_pay_1 (fun z1 z1e z1E => ?_)
  have z1F : z1.toInt = nZ := z1E.trans nE
  refine V_lconst 0 d_Mod_pay_2 (by decide) ?_
  refine V_aload_n 0 d_Mod_pay_3 rfl rfl ?_
  refine V_getR fa_Mod_7 sk_116 rfl d_Mod_pay_4 ?_
  refine V_bipush 86 d_Mod_pay_7 (by decide) ?_
  refine N_ialdK sk_117 tc_86 (by (first | decide +kernel | omega)) d_Mod_pay_9 tK ?_
  refine V_i2l d_Mod_pay_10 (fun z3 z3e z3E => ?_)
  have z3F : z3.toInt = tZ := z3E.trans tE
  refine N_callSI [.long z1, .long 0, .long z3] [] cs_Mod_95 d_Mod_pay_11 rfl (Nat.le_of_ble_eq_true rfl) (by decide) (by decide) (c_Mod_in h z1 nZ z1F 0 0 tl_0 z3 tZ z3F) (fun z4 h5 z4Z z4E p6 => ?_)
  obtain ⟨eh5, p6⟩ := p6
  subst eh5
  refine V_if_eq 27 z4E d_Mod_pay_14 (by decide) (fun c7 => ?_) (fun c7 => ?_)
  ·
    refine V_iconst (-1) d_Mod_pay_27 (by decide) ?_
    exact V_iret rfl d_Mod_pay_28 ⟨(-1), rfl, ⟨hI, f0, (Or.inr ⟨by (first | decide +kernel | omega), rfl, tc_m1⟩)⟩⟩
  ·
    refine V_aload_n 0 d_Mod_pay_17 rfl rfl ?_
    refine V_bipush 86 d_Mod_pay_18 (by decide) ?_
    refine V_iload_n 1 d_Mod_pay_20 rfl rfl ?_
    refine N_callVI [.int 86, .int n] [] cv_Mod_210 sk_116 rfl d_Mod_pay_21 rfl (Nat.le_of_ble_eq_true rfl) (by decide) (by decide) (c_Mod_becomesX h hI 86 86 tc_86 n nZ nE (by (first | decide +kernel | omega)) (stOk_8 (by (first | decide +kernel | omega)) (by (first | decide +kernel | omega)))) (fun z8 h9 z8Z z8E p10 => ?_)
    obtain ⟨hI11, fh9, p10⟩ := p10
    have f12 : fr S_Mod_payX h h9 := fr_call f0 fh9 rfl
    refine V_goto 28 d_Mod_pay_24 (by decide) ?_
    exact V_iret rfl d_Mod_pay_28 ⟨z8, rfl, ⟨hI11, f12, (Or.inl ⟨by (first | decide +kernel | omega), p10.1, p10.2.trans tK⟩)⟩⟩
def S_Mod_forgetX : List (Nat × Option Nat) := [(117, none)]
abbrev q_Mod_forgetX (h : Hp) (n : Int32) (nZ : Int) (t : Int32) (tZ : Int) : Option Value → Hp → Prop := pInt (fun r h' => Inv h' ∧ fr S_Mod_forgetX h h' ∧ (Ew h h' (0 ≤ nZ ∧ nZ ≤ tZ) (pI h 117 111 n) t r))
set_option maxRecDepth 100000 in
theorem c_Mod_forgetX (h : Hp) (hI : Inv h) (n : Int32) (nZ : Int) (nE : n.toInt = nZ) (t : Int32) (tZ : Int) (tE : t.toInt = tZ) (tK : h.1 117 111 = t) : Ct y_Mod_forget b_Mod_forget 2 (some .int) 1 25 [.ref 116, .int n] h (q_Mod_forgetX h n nZ t tZ) := by
  refine ct_ow R_Mod [some (.ref 116), some (.int n)] rfl (by decide) rfl (Nat.le_of_ble_eq_true rfl) ?_
  have f0 : fr S_Mod_forgetX h h := fr_rf
  have tB : 0 ≤ tZ ∧ tZ ≤ 8 := inv_at hI tE tK.symm rfl
  refine V_iload_n 1 d_Mod_forget_0 rfl rfl ?_
  refine V_i2l d_Mod_forget_1 (fun z1 z1e z1E => ?_)
  have z1F : z1.toInt = nZ := z1E.trans nE
  refine V_lconst 0 d_Mod_forget_2 (by decide) ?_
  refine V_aload_n 0 d_Mod_forget_3 rfl rfl ?_
  refine V_getR fa_Mod_7 sk_116 rfl d_Mod_forget_4 ?_
  refine V_bipush 111 d_Mod_forget_7 (by decide) ?_
  refine N_ialdK sk_117 tc_111 (by (first | decide +kernel | omega)) d_Mod_forget_9 tK ?_
  refine V_i2l d_Mod_forget_10 (fun z3 z3e z3E => ?_)
  have z3F : z3.toInt = tZ := z3E.trans tE
  refine N_callSI [.long z1, .long 0, .long z3] [] cs_Mod_95 d_Mod_forget_11 rfl (Nat.le_of_ble_eq_true rfl) (by decide) (by decide) (c_Mod_in h z1 nZ z1F 0 0 tl_0 z3 tZ z3F) (fun z4 h5 z4Z z4E p6 => ?_)
  obtain ⟨eh5, p6⟩ := p6
  subst eh5
  refine V_if_eq 27 z4E d_Mod_forget_14 (by decide) (fun c7 => ?_) (fun c7 => ?_)
  ·
    refine V_iconst (-1) d_Mod_forget_27 (by decide) ?_
    exact V_iret rfl d_Mod_forget_28 ⟨(-1), rfl, ⟨hI, f0, (Or.inr ⟨by (first | decide +kernel | omega), rfl, tc_m1⟩)⟩⟩
  ·
    refine V_aload_n 0 d_Mod_forget_17 rfl rfl ?_
    refine V_bipush 111 d_Mod_forget_18 (by decide) ?_
    refine V_iload_n 1 d_Mod_forget_20 rfl rfl ?_
    refine N_callVI [.int 111, .int n] [] cv_Mod_210 sk_116 rfl d_Mod_forget_21 rfl (Nat.le_of_ble_eq_true rfl) (by decide) (by decide) (c_Mod_becomesX h hI 111 111 tc_111 n nZ nE (by (first | decide +kernel | omega)) (stOk_8 (by (first | decide +kernel | omega)) (by (first | decide +kernel | omega)))) (fun z8 h9 z8Z z8E p10 => ?_)
    obtain ⟨hI11, fh9, p10⟩ := p10
    have f12 : fr S_Mod_forgetX h h9 := fr_call f0 fh9 rfl
    refine V_goto 28 d_Mod_forget_24 (by decide) ?_
    exact V_iret rfl d_Mod_forget_28 ⟨z8, rfl, ⟨hI11, f12, (Or.inl ⟨by (first | decide +kernel | omega), p10.1, p10.2.trans tK⟩)⟩⟩
def S_Ledger_addDebtX_0 : List (Nat × Option Nat) := [(7, some 4), (9, none), (10, none), (11, none)]
abbrev q_Ledger_addDebtX_0 (h : Hp) (a : Int32) (aZ : Int) (b : Int32) (bZ : Int) (v : Int32) (vZ : Int) (t : Int32) (tZ : Int) : Option Value → Hp → Prop := pVd (fun h' => Inv h' ∧ fr S_Ledger_addDebtX_0 h h' ∧ ∃ (u : Int32) (uZ : Int), u.toInt = uZ ∧ h'.1 7 4 = u ∧ (tZ < 8 ∧ uZ = tZ + 1 ∧ h' = pI (pI (pI (pI h 9 tZ.toNat a) 10 tZ.toNat b) 11 tZ.toNat v) 7 4 u ∨ 8 ≤ tZ ∧ h' = h))
set_option maxRecDepth 100000 in
theorem c_Ledger_addDebtX_0 (h : Hp) (hI : Inv h) (a : Int32) (aZ : Int) (aE : a.toInt = aZ) (b : Int32) (bZ : Int) (bE : b.toInt = bZ) (v : Int32) (vZ : Int) (vE : v.toInt = vZ) (t : Int32) (tZ : Int) (tE : t.toInt = tZ) (tK : h.1 7 4 = t) : Ct y_Ledger_addDebt b_Ledger_addDebt 4 none 0 0 [.ref 7, .int a, .int b, .int v] h (q_Ledger_addDebtX_0 h a aZ b bZ v vZ t tZ) := by
  refine ct_ow R_Ledger [some (.ref 7), some (.int a), some (.int b), some (.int v)] rfl (by decide) rfl (Nat.le_of_ble_eq_true rfl) ?_
  have f0 : fr S_Ledger_addDebtX_0 h h := fr_rf
  have g1 : 0 ≤ tZ ∧ tZ ≤ 8 := inv_at hI tE tK.symm rfl
  refine V_aload_n 0 d_Ledger_addDebt_0 rfl rfl ?_
  refine N_getK fa_Ledger_30 sk_7 rfl d_Ledger_addDebt_1 tK ?_
  refine V_bipush 8 d_Ledger_addDebt_4 (by decide) ?_
  refine V_icmp_ge 49 tE tc_8 d_Ledger_addDebt_6 (by decide) (fun c2 => ?_) (fun c2 => ?_)
  ·
    exact V_vret rfl d_Ledger_addDebt_49 ⟨rfl, ⟨hI, f0, t, tZ, tE, tK, (Or.inr ⟨by (first | decide +kernel | omega), rfl⟩)⟩⟩
  ·
    refine V_aload_n 0 d_Ledger_addDebt_9 rfl rfl ?_
    refine V_getR fa_Ledger_15 sk_7 rfl d_Ledger_addDebt_10 ?_
    refine V_aload_n 0 d_Ledger_addDebt_13 rfl rfl ?_
    refine N_getK fa_Ledger_30 sk_7 rfl d_Ledger_addDebt_14 tK ?_
    refine V_iload_n 1 d_Ledger_addDebt_17 rfl rfl ?_
    refine N_iast sk_9 tE (by (first | decide +kernel | omega)) d_Ledger_addDebt_18 (fun h3 eh3 => ?_)
    have hI4 : Inv h3 := inv_full hI eh3 rfl
    have f5 : fr S_Ledger_addDebtX_0 h h3 := fr_put f0 eh3 rfl
    refine V_aload_n 0 d_Ledger_addDebt_19 rfl rfl ?_
    refine V_getR fa_Ledger_18 sk_7 rfl d_Ledger_addDebt_20 ?_
    refine V_aload_n 0 d_Ledger_addDebt_23 rfl rfl ?_
    refine N_getK fa_Ledger_30 sk_7 rfl d_Ledger_addDebt_24 (kn_ne eh3 tK (by decide)) ?_
    refine V_iload_n 2 d_Ledger_addDebt_27 rfl rfl ?_
    refine N_iast sk_10 tE (by (first | decide +kernel | omega)) d_Ledger_addDebt_28 (fun h6 eh6 => ?_)
    have hI7 : Inv h6 := inv_full hI4 eh6 rfl
    have f8 : fr S_Ledger_addDebtX_0 h h6 := fr_put f5 eh6 rfl
    refine V_aload_n 0 d_Ledger_addDebt_29 rfl rfl ?_
    refine V_getR fa_Ledger_21 sk_7 rfl d_Ledger_addDebt_30 ?_
    refine V_aload_n 0 d_Ledger_addDebt_33 rfl rfl ?_
    refine N_getK fa_Ledger_30 sk_7 rfl d_Ledger_addDebt_34 (kn_ne eh6 (kn_ne eh3 tK (by decide)) (by decide)) ?_
    refine V_iload_n 3 d_Ledger_addDebt_37 rfl rfl ?_
    refine N_iast sk_11 tE (by (first | decide +kernel | omega)) d_Ledger_addDebt_38 (fun h9 eh9 => ?_)
    have hI10 : Inv h9 := inv_full hI7 eh9 rfl
    have f11 : fr S_Ledger_addDebtX_0 h h9 := fr_put f8 eh9 rfl
    refine V_aload_n 0 d_Ledger_addDebt_39 rfl rfl ?_
    refine V_dup d_Ledger_addDebt_40 rfl ?_
    refine N_getK fa_Ledger_30 sk_7 rfl d_Ledger_addDebt_41 (kn_ne eh9 (kn_ne eh6 (kn_ne eh3 tK (by decide)) (by decide)) (by decide)) ?_
    refine V_iconst 1 d_Ledger_addDebt_44 (by decide) ?_
    refine V_iadd tE tc_1 (by (first | decide +kernel | omega)) d_Ledger_addDebt_45 (fun z12 z12e z12E => ?_)
    refine N_putI fp_Ledger_30 sk_7 rfl d_Ledger_addDebt_46 (fun h13 eh13 => ?_)
    have hI14 : Inv h13 := inv_put (lo := 0) (hi := 8) hI10 eh13 rfl z12E (by (first | decide +kernel | omega))
    have f15 : fr S_Ledger_addDebtX_0 h h13 := fr_put f11 eh13 rfl
    exact V_vret rfl d_Ledger_addDebt_49 ⟨rfl, ⟨hI14, f15, z12, (tZ + 1), z12E, (kn_put eh13), (Or.inl ⟨by (first | decide +kernel | omega), by (first | decide +kernel | omega), (by rw [eh13, eh9, eh6, eh3] <;> rfl)⟩)⟩⟩
def S_Rod_oweX : List (Nat × Option Nat) := [(7, some 4), (9, none), (10, none), (11, none)]
abbrev q_Rod_oweX (h : Hp) (a : Int32) (aZ : Int) (b : Int32) (bZ : Int) (v : Int32) (vZ : Int) (t : Int32) (tZ : Int) : Option Value → Hp → Prop := pInt (fun r h' => Inv h' ∧ fr S_Rod_oweX h h' ∧ ((0 ≤ aZ ∧ aZ ≤ 3 ∧ 0 ≤ bZ ∧ bZ ≤ 3 ∧ aZ ≠ bZ ∧ 1 ≤ vZ ∧ vZ ≤ 99) ∧ tZ < 8 ∧ (∃ u : Int32, u.toInt = tZ + 1 ∧ h' = pI (pI (pI (pI h 9 tZ.toNat a) 10 tZ.toNat b) 11 tZ.toNat v) 7 4 u ∧ r = u) ∨ (0 ≤ aZ ∧ aZ ≤ 3 ∧ 0 ≤ bZ ∧ bZ ≤ 3 ∧ aZ ≠ bZ ∧ 1 ≤ vZ ∧ vZ ≤ 99) ∧ 8 ≤ tZ ∧ h' = h ∧ r.toInt = -3 ∨ ¬ (0 ≤ aZ ∧ aZ ≤ 3 ∧ 0 ≤ bZ ∧ bZ ≤ 3 ∧ aZ ≠ bZ ∧ 1 ≤ vZ ∧ vZ ≤ 99) ∧ h' = h ∧ r.toInt = -1))
set_option maxRecDepth 100000 in
theorem c_Rod_oweX (h : Hp) (hI : Inv h) (a : Int32) (aZ : Int) (aE : a.toInt = aZ) (b : Int32) (bZ : Int) (bE : b.toInt = bZ) (v : Int32) (vZ : Int) (vE : v.toInt = vZ) (t : Int32) (tZ : Int) (tE : t.toInt = tZ) (tK : h.1 7 4 = t) : Ct y_Rod_owe b_Rod_owe 4 (some .int) 1 23 [.ref 85, .int a, .int b, .int v] h (q_Rod_oweX h a aZ b bZ v vZ t tZ) := by
  refine ct_ow R_Rod [some (.ref 85), some (.int a), some (.int b), some (.int v)] rfl (by decide) rfl (Nat.le_of_ble_eq_true rfl) ?_
  have f0 : fr S_Rod_oweX h h := fr_rf
  have g1 : 0 ≤ tZ ∧ tZ ≤ 8 := inv_at hI tE tK.symm rfl
  refine V_iload_n 1 d_Rod_owe_0 rfl rfl ?_
  refine N_callSI [.int a] [] cs_Rod_151 d_Rod_owe_1 rfl (Nat.le_of_ble_eq_true rfl) (by decide) (by decide) (c_Rod_isOwner h a aZ aE) (fun z2 h3 z2Z z2E p4 => ?_)
  obtain ⟨eh3, p4⟩ := p4
  subst eh3
  refine V_if_eq 30 z2E d_Rod_owe_4 (by decide) (fun c5 => ?_) (fun c5 => ?_)
  ·
    refine V_iconst (-1) d_Rod_owe_30 (by decide) ?_
    exact V_iret rfl d_Rod_owe_31 ⟨(-1), rfl, ⟨hI, f0, (Or.inr (Or.inr ⟨by (first | decide +kernel | omega), rfl, tc_m1⟩))⟩⟩
  ·
    refine V_iload_n 2 d_Rod_owe_7 rfl rfl ?_
    refine N_callSI [.int b] [] cs_Rod_151 d_Rod_owe_8 rfl (Nat.le_of_ble_eq_true rfl) (by decide) (by decide) (c_Rod_isOwner h b bZ bE) (fun z6 h7 z6Z z6E p8 => ?_)
    obtain ⟨eh7, p8⟩ := p8
    subst eh7
    refine V_if_eq 30 z6E d_Rod_owe_11 (by decide) (fun c9 => ?_) (fun c9 => ?_)
    ·
      refine V_iconst (-1) d_Rod_owe_30 (by decide) ?_
      exact V_iret rfl d_Rod_owe_31 ⟨(-1), rfl, ⟨hI, f0, (Or.inr (Or.inr ⟨by (first | decide +kernel | omega), rfl, tc_m1⟩))⟩⟩
    ·
      refine V_iload_n 1 d_Rod_owe_14 rfl rfl ?_
      refine V_iload_n 2 d_Rod_owe_15 rfl rfl ?_
      refine V_icmp_eq 30 aE bE d_Rod_owe_16 (by decide) (fun c10 => ?_) (fun c10 => ?_)
      ·
        refine V_iconst (-1) d_Rod_owe_30 (by decide) ?_
        exact V_iret rfl d_Rod_owe_31 ⟨(-1), rfl, ⟨hI, f0, (Or.inr (Or.inr ⟨by (first | decide +kernel | omega), rfl, tc_m1⟩))⟩⟩
      ·
        refine V_iload_n 3 d_Rod_owe_19 rfl rfl ?_
        refine V_iconst 1 d_Rod_owe_20 (by decide) ?_
        refine V_icmp_lt 30 vE tc_1 d_Rod_owe_21 (by decide) (fun c11 => ?_) (fun c11 => ?_)
        ·
          refine V_iconst (-1) d_Rod_owe_30 (by decide) ?_
          exact V_iret rfl d_Rod_owe_31 ⟨(-1), rfl, ⟨hI, f0, (Or.inr (Or.inr ⟨by (first | decide +kernel | omega), rfl, tc_m1⟩))⟩⟩
        ·
          refine V_iload_n 3 d_Rod_owe_24 rfl rfl ?_
          refine V_bipush 99 d_Rod_owe_25 (by decide) ?_
          refine V_icmp_le 32 vE tc_99 d_Rod_owe_27 (by decide) (fun c12 => ?_) (fun c12 => ?_)
          ·
            refine V_aload_n 0 d_Rod_owe_32 rfl rfl ?_
            refine V_getR fa_Rod_12 sk_85 rfl d_Rod_owe_33 ?_
            refine V_getR fa_Rod_115 sk_0 rfl d_Rod_owe_36 ?_
            refine N_getK fa_Rod_119 sk_7 rfl d_Rod_owe_39 tK ?_
            refine V_bipush 8 d_Rod_owe_42 (by decide) ?_
            refine V_icmp_lt 50 tE tc_8 d_Rod_owe_44 (by decide) (fun c13 => ?_) (fun c13 => ?_)
            ·
              refine V_aload_n 0 d_Rod_owe_50 rfl rfl ?_
              refine V_getR fa_Rod_12 sk_85 rfl d_Rod_owe_51 ?_
              refine V_getR fa_Rod_115 sk_0 rfl d_Rod_owe_54 ?_
              refine V_iload_n 1 d_Rod_owe_57 rfl rfl ?_
              refine V_iload_n 2 d_Rod_owe_58 rfl rfl ?_
              refine V_iload_n 3 d_Rod_owe_59 rfl rfl ?_
              refine N_callVV [.int a, .int b, .int v] [] cv_Rod_160 sk_7 rfl d_Rod_owe_60 rfl (Nat.le_of_ble_eq_true rfl) (by decide) (by decide) (c_Ledger_addDebtX_0 h hI a aZ aE b bZ bE v vZ vE t tZ tE tK) (fun h15 p16 => ?_)
              obtain ⟨hI17, fh15, o19, o19Z, o19E, o19K, p16⟩ := p16
              have f18 : fr S_Rod_oweX h h15 := fr_call f0 fh15 rfl
              have g20 : 0 ≤ o19Z ∧ o19Z ≤ 8 := inv_at hI17 o19E o19K.symm rfl
              refine V_aload_n 0 d_Rod_owe_63 rfl rfl ?_
              refine V_getR fa_Rod_12 sk_85 rfl d_Rod_owe_64 ?_
              refine V_getR fa_Rod_115 sk_0 rfl d_Rod_owe_67 ?_
              refine N_getK fa_Rod_119 sk_7 rfl d_Rod_owe_70 o19K ?_
              exact V_iret rfl d_Rod_owe_73 ⟨o19, rfl, ⟨hI17, f18, (Or.inl ⟨by (first | decide +kernel | omega), by (first | decide +kernel | omega), o19, by rw [o19E]; omega, (p16.resolve_right (fun q => absurd q.1 (by (first | decide +kernel | omega)))).2.2, rfl⟩)⟩⟩
            ·
              refine V_bipush (-3) d_Rod_owe_47 (by decide) ?_
              exact V_iret rfl d_Rod_owe_49 ⟨(-3), rfl, ⟨hI, f0, (Or.inr (Or.inl ⟨by (first | decide +kernel | omega), by (first | decide +kernel | omega), rfl, tc_m3⟩))⟩⟩
          ·
            refine V_iconst (-1) d_Rod_owe_30 (by decide) ?_
            exact V_iret rfl d_Rod_owe_31 ⟨(-1), rfl, ⟨hI, f0, (Or.inr (Or.inr ⟨by (first | decide +kernel | omega), rfl, tc_m1⟩))⟩⟩
def S_Mod_oweX : List (Nat × Option Nat) := [(117, none)]
abbrev q_Mod_oweX (h : Hp) (a : Int32) (aZ : Int) (b : Int32) (bZ : Int) (v : Int32) (vZ : Int) (t : Int32) (tZ : Int) : Option Value → Hp → Prop := pInt (fun r h' => Inv h' ∧ fr S_Mod_oweX h h' ∧ ((0 ≤ aZ ∧ aZ ≤ 3 ∧ 0 ≤ bZ ∧ bZ ≤ 3 ∧ aZ ≠ bZ ∧ 1 ≤ vZ ∧ vZ ≤ 99) ∧ tZ < 8 ∧ (∃ u : Int32, u.toInt = tZ + 1 ∧ h' = pI (pI (pI (pI h 117 (87 + 3 * tZ).toNat a) 117 (87 + 3 * tZ + 1).toNat b) 117 (87 + 3 * tZ + 2).toNat v) 117 86 u ∧ r = u) ∨ (0 ≤ aZ ∧ aZ ≤ 3 ∧ 0 ≤ bZ ∧ bZ ≤ 3 ∧ aZ ≠ bZ ∧ 1 ≤ vZ ∧ vZ ≤ 99) ∧ 8 ≤ tZ ∧ h' = h ∧ r.toInt = -3 ∨ ¬ (0 ≤ aZ ∧ aZ ≤ 3 ∧ 0 ≤ bZ ∧ bZ ≤ 3 ∧ aZ ≠ bZ ∧ 1 ≤ vZ ∧ vZ ≤ 99) ∧ h' = h ∧ r.toInt = -1))
set_option maxRecDepth 100000 in
theorem c_Mod_oweX (h : Hp) (hI : Inv h) (a : Int32) (aZ : Int) (aE : a.toInt = aZ) (b : Int32) (bZ : Int) (bE : b.toInt = bZ) (v : Int32) (vZ : Int) (vE : v.toInt = vZ) (t : Int32) (tZ : Int) (tE : t.toInt = tZ) (tK : h.1 117 86 = t) : Ct y_Mod_owe b_Mod_owe 5 (some .int) 2 45 [.ref 116, .int a, .int b, .int v] h (q_Mod_oweX h a aZ b bZ v vZ t tZ) := by
  refine ct_ow R_Mod [some (.ref 116), some (.int a), some (.int b), some (.int v), none] rfl (by decide) rfl (Nat.le_of_ble_eq_true rfl) ?_
  have f0 : fr S_Mod_oweX h h := fr_rf
  have tB : 0 ≤ tZ ∧ tZ ≤ 8 := inv_at hI tE tK.symm rfl
  refine V_iload_n 1 d_Mod_owe_0 rfl rfl ?_
  refine N_callSI [.int a] [] cs_Mod_205 d_Mod_owe_1 rfl (Nat.le_of_ble_eq_true rfl) (by decide) (by decide) (c_Mod_isOwner h a aZ aE) (fun z1 h2 z1Z z1E p3 => ?_)
  obtain ⟨eh2, p3⟩ := p3
  subst eh2
  refine V_if_eq 31 z1E d_Mod_owe_4 (by decide) (fun c4 => ?_) (fun c4 => ?_)
  ·
    refine V_iconst (-1) d_Mod_owe_31 (by decide) ?_
    exact V_iret rfl d_Mod_owe_32 ⟨(-1), rfl, ⟨hI, f0, (Or.inr (Or.inr ⟨by (first | decide +kernel | omega), rfl, tc_m1⟩))⟩⟩
  ·
    refine V_iload_n 2 d_Mod_owe_7 rfl rfl ?_
    refine N_callSI [.int b] [] cs_Mod_205 d_Mod_owe_8 rfl (Nat.le_of_ble_eq_true rfl) (by decide) (by decide) (c_Mod_isOwner h b bZ bE) (fun z5 h6 z5Z z5E p7 => ?_)
    obtain ⟨eh6, p7⟩ := p7
    subst eh6
    refine V_if_eq 31 z5E d_Mod_owe_11 (by decide) (fun c8 => ?_) (fun c8 => ?_)
    ·
      refine V_iconst (-1) d_Mod_owe_31 (by decide) ?_
      exact V_iret rfl d_Mod_owe_32 ⟨(-1), rfl, ⟨hI, f0, (Or.inr (Or.inr ⟨by (first | decide +kernel | omega), rfl, tc_m1⟩))⟩⟩
    ·
      refine V_iload_n 1 d_Mod_owe_14 rfl rfl ?_
      refine V_iload_n 2 d_Mod_owe_15 rfl rfl ?_
      refine V_icmp_eq 31 aE bE d_Mod_owe_16 (by decide) (fun c9 => ?_) (fun c9 => ?_)
      ·
        refine V_iconst (-1) d_Mod_owe_31 (by decide) ?_
        exact V_iret rfl d_Mod_owe_32 ⟨(-1), rfl, ⟨hI, f0, (Or.inr (Or.inr ⟨by (first | decide +kernel | omega), rfl, tc_m1⟩))⟩⟩
      ·
        refine V_iload_n 3 d_Mod_owe_19 rfl rfl ?_
        refine V_i2l d_Mod_owe_20 (fun z10 z10e z10E => ?_)
        have z10F : z10.toInt = vZ := z10E.trans vE
        refine V_lconst 1 d_Mod_owe_21 (by decide) ?_
        refine V_ldc2 d_Mod_owe_22 wl_Mod_219 ?_
        refine N_callSI [.long z10, .long 1, .long 99] [] cs_Mod_95 d_Mod_owe_25 rfl (Nat.le_of_ble_eq_true rfl) (by decide) (by decide) (c_Mod_in h z10 vZ z10F 1 1 tl_1 99 99 tl_99) (fun z11 h12 z11Z z11E p13 => ?_)
        obtain ⟨eh12, p13⟩ := p13
        subst eh12
        refine V_if_ne 33 z11E d_Mod_owe_28 (by decide) (fun c14 => ?_) (fun c14 => ?_)
        ·
          refine V_aload_n 0 d_Mod_owe_33 rfl rfl ?_
          refine V_getR fa_Mod_7 sk_116 rfl d_Mod_owe_34 ?_
          refine V_bipush 86 d_Mod_owe_37 (by decide) ?_
          refine N_ialdK sk_117 tc_86 (by (first | decide +kernel | omega)) d_Mod_owe_39 tK ?_
          refine V_bipush 8 d_Mod_owe_40 (by decide) ?_
          refine V_icmp_ne 48 tE tc_8 d_Mod_owe_42 (by decide) (fun c16 => ?_) (fun c16 => ?_)
          ·
            refine V_bipush 87 d_Mod_owe_48 (by decide) ?_
            refine V_iconst 3 d_Mod_owe_50 (by decide) ?_
            refine V_aload_n 0 d_Mod_owe_51 rfl rfl ?_
            refine V_getR fa_Mod_7 sk_116 rfl d_Mod_owe_52 ?_
            refine V_bipush 86 d_Mod_owe_55 (by decide) ?_
            refine N_ialdK sk_117 tc_86 (by (first | decide +kernel | omega)) d_Mod_owe_57 tK ?_
            refine V_imul tc_3 tE (by (first | decide +kernel | omega)) d_Mod_owe_58 (fun z18 z18e z18E => ?_)
            refine V_iadd tc_87 z18E (by (first | decide +kernel | omega)) d_Mod_owe_59 (fun z19 z19e z19E => ?_)
            refine V_istore 4 [some (.ref 116), some (.int a), some (.int b), some (.int v), some (.int z19)] d_Mod_owe_60 (by decide) rfl rfl ?_
            refine V_aload_n 0 d_Mod_owe_62 rfl rfl ?_
            refine V_getR fa_Mod_7 sk_116 rfl d_Mod_owe_63 ?_
            refine V_iload d_Mod_owe_66 rfl ?_
            refine V_iload_n 1 d_Mod_owe_68 rfl rfl ?_
            refine N_iast sk_117 z19E (by (first | decide +kernel | omega)) d_Mod_owe_69 (fun h20 eh20 => ?_)
            have hI21 : Inv h20 := inv_put hI eh20 (st_a (by (first | decide +kernel | omega))) aE (by (first | decide +kernel | omega))
            have f22 : fr S_Mod_oweX h h20 := fr_put f0 eh20 rfl
            refine V_aload_n 0 d_Mod_owe_70 rfl rfl ?_
            refine V_getR fa_Mod_7 sk_116 rfl d_Mod_owe_71 ?_
            refine V_iload d_Mod_owe_74 rfl ?_
            refine V_iconst 1 d_Mod_owe_76 (by decide) ?_
            refine V_iadd z19E tc_1 (by (first | decide +kernel | omega)) d_Mod_owe_77 (fun z23 z23e z23E => ?_)
            refine V_iload_n 2 d_Mod_owe_78 rfl rfl ?_
            refine N_iast sk_117 z23E (by (first | decide +kernel | omega)) d_Mod_owe_79 (fun h24 eh24 => ?_)
            have hI25 : Inv h24 := inv_put hI21 eh24 (st_a (by (first | decide +kernel | omega))) bE (by (first | decide +kernel | omega))
            have f26 : fr S_Mod_oweX h h24 := fr_put f22 eh24 rfl
            refine V_aload_n 0 d_Mod_owe_80 rfl rfl ?_
            refine V_getR fa_Mod_7 sk_116 rfl d_Mod_owe_81 ?_
            refine V_iload d_Mod_owe_84 rfl ?_
            refine V_iconst 2 d_Mod_owe_86 (by decide) ?_
            refine V_iadd z19E tc_2 (by (first | decide +kernel | omega)) d_Mod_owe_87 (fun z27 z27e z27E => ?_)
            refine V_iload_n 3 d_Mod_owe_88 rfl rfl ?_
            refine N_iast sk_117 z27E (by (first | decide +kernel | omega)) d_Mod_owe_89 (fun h28 eh28 => ?_)
            have hI29 : Inv h28 := inv_full hI25 eh28 (st_b (by (first | decide +kernel | omega)))
            have f30 : fr S_Mod_oweX h h28 := fr_put f26 eh28 rfl
            refine V_aload_n 0 d_Mod_owe_90 rfl rfl ?_
            refine V_getR fa_Mod_7 sk_116 rfl d_Mod_owe_91 ?_
            refine V_bipush 86 d_Mod_owe_94 (by decide) ?_
            refine V_dup2 d_Mod_owe_96 rfl rfl ?_
            refine N_ialdK sk_117 tc_86 (by (first | decide +kernel | omega)) d_Mod_owe_97 (kn_nei eh28 (kn_nei eh24 (kn_nei eh20 tK (by (first | decide +kernel | omega))) (by (first | decide +kernel | omega))) (by (first | decide +kernel | omega))) ?_
            refine V_iconst 1 d_Mod_owe_98 (by decide) ?_
            refine V_iadd tE tc_1 (by (first | decide +kernel | omega)) d_Mod_owe_99 (fun z32 z32e z32E => ?_)
            refine N_iast sk_117 tc_86 (by (first | decide +kernel | omega)) d_Mod_owe_100 (fun h33 eh33 => ?_)
            have hI34 : Inv h33 := inv_put (lo := 0) (hi := 8) hI29 eh33 rfl z32E (by (first | decide +kernel | omega))
            have f35 : fr S_Mod_oweX h h33 := fr_put f30 eh33 rfl
            refine V_aload_n 0 d_Mod_owe_101 rfl rfl ?_
            refine V_getR fa_Mod_7 sk_116 rfl d_Mod_owe_102 ?_
            refine V_bipush 86 d_Mod_owe_105 (by decide) ?_
            refine N_ialdK sk_117 tc_86 (by (first | decide +kernel | omega)) d_Mod_owe_107 (kn_put eh33) ?_
            exact V_iret rfl d_Mod_owe_108 ⟨z32, rfl, ⟨hI34, f35, (Or.inl ⟨by (first | decide +kernel | omega), by (first | decide +kernel | omega), z32, by rw [z32E], (by rw [eh33, eh28, eh24, eh20] <;> rfl), rfl⟩)⟩⟩
          ·
            refine V_bipush (-3) d_Mod_owe_45 (by decide) ?_
            exact V_iret rfl d_Mod_owe_47 ⟨(-3), rfl, ⟨hI, f0, (Or.inr (Or.inl ⟨by (first | decide +kernel | omega), by (first | decide +kernel | omega), rfl, tc_m3⟩))⟩⟩
        ·
          refine V_iconst (-1) d_Mod_owe_31 (by decide) ?_
          exact V_iret rfl d_Mod_owe_32 ⟨(-1), rfl, ⟨hI, f0, (Or.inr (Or.inr ⟨by (first | decide +kernel | omega), rfl, tc_m1⟩))⟩⟩
def S_Sights_addX_0 : List (Nat × Option Nat) := [(12, some 4), (13, none), (14, none), (15, none), (16, none)]
abbrev q_Sights_addX_0 (h : Hp) (c : Int32) (cZ : Int) (o : Int32) (oZ : Int) (s : Int32) (sZ : Int) (b : Int32) (bZ : Int) (t : Int32) (tZ : Int) : Option Value → Hp → Prop := pVd (fun h' => Inv h' ∧ fr S_Sights_addX_0 h h' ∧ ∃ (u : Int32) (uZ : Int), u.toInt = uZ ∧ h'.1 12 4 = u ∧ (tZ < 8 ∧ uZ = tZ + 1 ∧ h' = pI (pI (pI (pI (pI h 13 tZ.toNat c) 14 tZ.toNat o) 15 tZ.toNat s) 16 tZ.toNat b) 12 4 u ∨ 8 ≤ tZ ∧ h' = h))
set_option maxRecDepth 100000 in
theorem c_Sights_addX_0 (h : Hp) (hI : Inv h) (c : Int32) (cZ : Int) (cE : c.toInt = cZ) (o : Int32) (oZ : Int) (oE : o.toInt = oZ) (s : Int32) (sZ : Int) (sE : s.toInt = sZ) (b : Int32) (bZ : Int) (bE : b.toInt = bZ) (t : Int32) (tZ : Int) (tE : t.toInt = tZ) (tK : h.1 12 4 = t) (hy0 : 0 ≤ cZ ∧ cZ ≤ 15) : Ct y_Sights_add b_Sights_add 5 none 0 0 [.ref 12, .int c, .int o, .int s, .int b] h (q_Sights_addX_0 h c cZ o oZ s sZ b bZ t tZ) := by
  refine ct_ow R_Sights [some (.ref 12), some (.int c), some (.int o), some (.int s), some (.int b)] rfl (by decide) rfl (Nat.le_of_ble_eq_true rfl) ?_
  have f0 : fr S_Sights_addX_0 h h := fr_rf
  have g1 : 0 ≤ tZ ∧ tZ ≤ 8 := inv_at hI tE tK.symm rfl
  refine V_aload_n 0 d_Sights_add_0 rfl rfl ?_
  refine N_getK fa_Sights_30 sk_12 rfl d_Sights_add_1 tK ?_
  refine V_bipush 8 d_Sights_add_4 (by decide) ?_
  refine V_icmp_ge 60 tE tc_8 d_Sights_add_6 (by decide) (fun c2 => ?_) (fun c2 => ?_)
  ·
    exact V_vret rfl d_Sights_add_60 ⟨rfl, ⟨hI, f0, t, tZ, tE, tK, (Or.inr ⟨by (first | decide +kernel | omega), rfl⟩)⟩⟩
  ·
    refine V_aload_n 0 d_Sights_add_9 rfl rfl ?_
    refine V_getR fa_Sights_9 sk_12 rfl d_Sights_add_10 ?_
    refine V_aload_n 0 d_Sights_add_13 rfl rfl ?_
    refine N_getK fa_Sights_30 sk_12 rfl d_Sights_add_14 tK ?_
    refine V_iload_n 1 d_Sights_add_17 rfl rfl ?_
    refine N_iast sk_13 tE (by (first | decide +kernel | omega)) d_Sights_add_18 (fun h3 eh3 => ?_)
    have hI4 : Inv h3 := inv_put (lo := 0) (hi := 15) hI eh3 rfl cE (by (first | decide +kernel | omega))
    have f5 : fr S_Sights_addX_0 h h3 := fr_put f0 eh3 rfl
    refine V_aload_n 0 d_Sights_add_19 rfl rfl ?_
    refine V_getR fa_Sights_15 sk_12 rfl d_Sights_add_20 ?_
    refine V_aload_n 0 d_Sights_add_23 rfl rfl ?_
    refine N_getK fa_Sights_30 sk_12 rfl d_Sights_add_24 (kn_ne eh3 tK (by decide)) ?_
    refine V_iload_n 2 d_Sights_add_27 rfl rfl ?_
    refine N_iast sk_14 tE (by (first | decide +kernel | omega)) d_Sights_add_28 (fun h6 eh6 => ?_)
    have hI7 : Inv h6 := inv_full hI4 eh6 rfl
    have f8 : fr S_Sights_addX_0 h h6 := fr_put f5 eh6 rfl
    refine V_aload_n 0 d_Sights_add_29 rfl rfl ?_
    refine V_getR fa_Sights_18 sk_12 rfl d_Sights_add_30 ?_
    refine V_aload_n 0 d_Sights_add_33 rfl rfl ?_
    refine N_getK fa_Sights_30 sk_12 rfl d_Sights_add_34 (kn_ne eh6 (kn_ne eh3 tK (by decide)) (by decide)) ?_
    refine V_iload_n 3 d_Sights_add_37 rfl rfl ?_
    refine N_iast sk_15 tE (by (first | decide +kernel | omega)) d_Sights_add_38 (fun h9 eh9 => ?_)
    have hI10 : Inv h9 := inv_full hI7 eh9 rfl
    have f11 : fr S_Sights_addX_0 h h9 := fr_put f8 eh9 rfl
    refine V_aload_n 0 d_Sights_add_39 rfl rfl ?_
    refine V_getR fa_Sights_21 sk_12 rfl d_Sights_add_40 ?_
    refine V_aload_n 0 d_Sights_add_43 rfl rfl ?_
    refine N_getK fa_Sights_30 sk_12 rfl d_Sights_add_44 (kn_ne eh9 (kn_ne eh6 (kn_ne eh3 tK (by decide)) (by decide)) (by decide)) ?_
    refine V_iload d_Sights_add_47 rfl ?_
    refine N_iast sk_16 tE (by (first | decide +kernel | omega)) d_Sights_add_49 (fun h12 eh12 => ?_)
    have hI13 : Inv h12 := inv_full hI10 eh12 rfl
    have f14 : fr S_Sights_addX_0 h h12 := fr_put f11 eh12 rfl
    refine V_aload_n 0 d_Sights_add_50 rfl rfl ?_
    refine V_dup d_Sights_add_51 rfl ?_
    refine N_getK fa_Sights_30 sk_12 rfl d_Sights_add_52 (kn_ne eh12 (kn_ne eh9 (kn_ne eh6 (kn_ne eh3 tK (by decide)) (by decide)) (by decide)) (by decide)) ?_
    refine V_iconst 1 d_Sights_add_55 (by decide) ?_
    refine V_iadd tE tc_1 (by (first | decide +kernel | omega)) d_Sights_add_56 (fun z15 z15e z15E => ?_)
    refine N_putI fp_Sights_30 sk_12 rfl d_Sights_add_57 (fun h16 eh16 => ?_)
    have hI17 : Inv h16 := inv_put (lo := 0) (hi := 8) hI13 eh16 rfl z15E (by (first | decide +kernel | omega))
    have f18 : fr S_Sights_addX_0 h h16 := fr_put f14 eh16 rfl
    exact V_vret rfl d_Sights_add_60 ⟨rfl, ⟨hI17, f18, z15, (tZ + 1), z15E, (kn_put eh16), (Or.inl ⟨by (first | decide +kernel | omega), by (first | decide +kernel | omega), (by rw [eh16, eh12, eh9, eh6, eh3] <;> rfl)⟩)⟩⟩
def S_Rod_seeX : List (Nat × Option Nat) := [(12, some 4), (13, none), (14, none), (15, none), (16, none)]
abbrev q_Rod_seeX (h : Hp) (c : Int32) (cZ : Int) (o : Int32) (oZ : Int) (s : Int32) (sZ : Int) (b : Int32) (bZ : Int) (w : Int32) (wZ : Int) (g : Int32) (gZ : Int) (t : Int32) (tZ : Int) : Option Value → Hp → Prop := pInt (fun r h' => Inv h' ∧ fr S_Rod_seeX h h' ∧ ((0 ≤ cZ ∧ cZ < wZ * gZ ∧ 0 ≤ oZ ∧ oZ ≤ 3 ∧ 1 ≤ sZ ∧ sZ ≤ 9) ∧ tZ < 8 ∧ (∃ u x : Int32, u.toInt = tZ + 1 ∧ (bZ ≠ 0 ∧ x.toInt = 1 ∨ bZ = 0 ∧ x.toInt = 0) ∧ h' = pI (pI (pI (pI (pI h 13 tZ.toNat c) 14 tZ.toNat o) 15 tZ.toNat s) 16 tZ.toNat x) 12 4 u ∧ r = u) ∨ (0 ≤ cZ ∧ cZ < wZ * gZ ∧ 0 ≤ oZ ∧ oZ ≤ 3 ∧ 1 ≤ sZ ∧ sZ ≤ 9) ∧ 8 ≤ tZ ∧ h' = h ∧ r.toInt = -3 ∨ ¬ (0 ≤ cZ ∧ cZ < wZ * gZ ∧ 0 ≤ oZ ∧ oZ ≤ 3 ∧ 1 ≤ sZ ∧ sZ ≤ 9) ∧ h' = h ∧ r.toInt = -1))
set_option maxRecDepth 100000 in
theorem c_Rod_seeX (h : Hp) (hI : Inv h) (c : Int32) (cZ : Int) (cE : c.toInt = cZ) (o : Int32) (oZ : Int) (oE : o.toInt = oZ) (s : Int32) (sZ : Int) (sE : s.toInt = sZ) (b : Int32) (bZ : Int) (bE : b.toInt = bZ) (w : Int32) (wZ : Int) (wE : w.toInt = wZ) (wK : h.1 1 0 = w) (g : Int32) (gZ : Int) (gE : g.toInt = gZ) (gK : h.1 1 1 = g) (t : Int32) (tZ : Int) (tE : t.toInt = tZ) (tK : h.1 12 4 = t) : Ct y_Rod_see b_Rod_see 5 (some .int) 3 64 [.ref 85, .int c, .int o, .int s, .int b] h (q_Rod_seeX h c cZ o oZ s sZ b bZ w wZ g gZ t tZ) := by
  refine ct_ow R_Rod [some (.ref 85), some (.int c), some (.int o), some (.int s), some (.int b)] rfl (by decide) rfl (Nat.le_of_ble_eq_true rfl) ?_
  have f0 : fr S_Rod_seeX h h := fr_rf
  have g1 : 2 ≤ wZ ∧ wZ ≤ 4 := inv_at hI wE wK.symm rfl
  have g2 : 2 ≤ gZ ∧ gZ ≤ 4 := inv_at hI gE gK.symm rfl
  have g3 : 0 ≤ tZ ∧ tZ ≤ 8 := inv_at hI tE tK.symm rfl
  refine V_aload_n 0 d_Rod_see_0 rfl rfl ?_
  refine V_iload_n 1 d_Rod_see_1 rfl rfl ?_
  refine V_iload_n 2 d_Rod_see_2 rfl rfl ?_
  refine V_iload_n 3 d_Rod_see_3 rfl rfl ?_
  refine N_callVI [.int c, .int o, .int s] [] cv_Rod_171 sk_85 rfl d_Rod_see_4 rfl (Nat.le_of_ble_eq_true rfl) (by decide) (by decide) (c_Rod_isSightX h hI c cZ cE o oZ oE s sZ sE w wZ wE wK g gZ gE gK) (fun z4 h5 z4Z z4E p6 => ?_)
  obtain ⟨eh5, p6⟩ := p6
  subst eh5
  refine V_if_ne 12 z4E d_Rod_see_7 (by decide) (fun c7 => ?_) (fun c7 => ?_)
  ·
    refine V_aload_n 0 d_Rod_see_12 rfl rfl ?_
    refine V_getR fa_Rod_12 sk_85 rfl d_Rod_see_13 ?_
    refine V_getR fa_Rod_178 sk_0 rfl d_Rod_see_16 ?_
    refine N_getK fa_Rod_182 sk_12 rfl d_Rod_see_19 tK ?_
    refine V_bipush 8 d_Rod_see_22 (by decide) ?_
    refine V_icmp_lt 30 tE tc_8 d_Rod_see_24 (by decide) (fun c8 => ?_) (fun c8 => ?_)
    ·
      refine V_aload_n 0 d_Rod_see_30 rfl rfl ?_
      refine V_getR fa_Rod_12 sk_85 rfl d_Rod_see_31 ?_
      refine V_getR fa_Rod_178 sk_0 rfl d_Rod_see_34 ?_
      refine V_iload_n 1 d_Rod_see_37 rfl rfl ?_
      refine V_iload_n 2 d_Rod_see_38 rfl rfl ?_
      refine V_iload_n 3 d_Rod_see_39 rfl rfl ?_
      refine V_iload d_Rod_see_40 rfl ?_
      refine N_callSI [.int b] [.int s, .int o, .int c, .ref 12] cs_Rod_147 d_Rod_see_42 rfl (Nat.le_of_ble_eq_true rfl) (by decide) (by decide) (c_Rod_oneIf h b bZ bE) (fun z9 h10 z9Z z9E p11 => ?_)
      obtain ⟨eh10, p11⟩ := p11
      subst eh10
      refine N_callVV [.int c, .int o, .int s, .int z9] [] cv_Rod_185 sk_12 rfl d_Rod_see_45 rfl (Nat.le_of_ble_eq_true rfl) (by decide) (by decide) (c_Sights_addX_0 h hI c cZ cE o oZ oE s sZ sE z9 z9Z z9E t tZ tE tK (by (first | decide +kernel | omega))) (fun h13 p14 => ?_)
      obtain ⟨hI15, fh13, o17, o17Z, o17E, o17K, p14⟩ := p14
      have f16 : fr S_Rod_seeX h h13 := fr_call f0 fh13 rfl
      have g18 : 0 ≤ o17Z ∧ o17Z ≤ 8 := inv_at hI15 o17E o17K.symm rfl
      refine V_aload_n 0 d_Rod_see_48 rfl rfl ?_
      refine V_getR fa_Rod_12 sk_85 rfl d_Rod_see_49 ?_
      refine V_getR fa_Rod_178 sk_0 rfl d_Rod_see_52 ?_
      refine N_getK fa_Rod_182 sk_12 rfl d_Rod_see_55 o17K ?_
      exact V_iret rfl d_Rod_see_58 ⟨o17, rfl, ⟨hI15, f16, (Or.inl ⟨by (first | decide +kernel | omega), by (first | decide +kernel | omega), o17, z9, by rw [o17E]; omega, p11, (p14.resolve_right (fun q => absurd q.1 (by (first | decide +kernel | omega)))).2.2, rfl⟩)⟩⟩
    ·
      refine V_bipush (-3) d_Rod_see_27 (by decide) ?_
      exact V_iret rfl d_Rod_see_29 ⟨(-3), rfl, ⟨hI, f0, (Or.inr (Or.inl ⟨by (first | decide +kernel | omega), by (first | decide +kernel | omega), rfl, tc_m3⟩))⟩⟩
  ·
    refine V_iconst (-1) d_Rod_see_10 (by decide) ?_
    exact V_iret rfl d_Rod_see_11 ⟨(-1), rfl, ⟨hI, f0, (Or.inr (Or.inr ⟨by (first | decide +kernel | omega), rfl, tc_m1⟩))⟩⟩
def S_Mod_seeX : List (Nat × Option Nat) := [(117, none)]
abbrev q_Mod_seeX (h : Hp) (c : Int32) (cZ : Int) (o : Int32) (oZ : Int) (s : Int32) (sZ : Int) (b : Int32) (bZ : Int) (w : Int32) (wZ : Int) (g : Int32) (gZ : Int) (t : Int32) (tZ : Int) : Option Value → Hp → Prop := pInt (fun r h' => Inv h' ∧ fr S_Mod_seeX h h' ∧ ((0 ≤ cZ ∧ cZ < wZ * gZ ∧ 0 ≤ oZ ∧ oZ ≤ 3 ∧ 1 ≤ sZ ∧ sZ ≤ 9) ∧ tZ < 8 ∧ (∃ u x : Int32, u.toInt = tZ + 1 ∧ (bZ ≠ 0 ∧ x.toInt = 1 ∨ bZ = 0 ∧ x.toInt = 0) ∧ h' = pI (pI (pI (pI (pI h 117 (112 + 4 * tZ).toNat c) 117 (112 + 4 * tZ + 1).toNat o) 117 (112 + 4 * tZ + 2).toNat s) 117 (112 + 4 * tZ + 3).toNat x) 117 111 u ∧ r = u) ∨ (0 ≤ cZ ∧ cZ < wZ * gZ ∧ 0 ≤ oZ ∧ oZ ≤ 3 ∧ 1 ≤ sZ ∧ sZ ≤ 9) ∧ 8 ≤ tZ ∧ h' = h ∧ r.toInt = -3 ∨ ¬ (0 ≤ cZ ∧ cZ < wZ * gZ ∧ 0 ≤ oZ ∧ oZ ≤ 3 ∧ 1 ≤ sZ ∧ sZ ≤ 9) ∧ h' = h ∧ r.toInt = -1))
set_option maxRecDepth 100000 in
theorem c_Mod_seeX (h : Hp) (hI : Inv h) (c : Int32) (cZ : Int) (cE : c.toInt = cZ) (o : Int32) (oZ : Int) (oE : o.toInt = oZ) (s : Int32) (sZ : Int) (sE : s.toInt = sZ) (b : Int32) (bZ : Int) (bE : b.toInt = bZ) (w : Int32) (wZ : Int) (wE : w.toInt = wZ) (wK : h.1 116 2 = w) (g : Int32) (gZ : Int) (gE : g.toInt = gZ) (gK : h.1 116 3 = g) (t : Int32) (tZ : Int) (tE : t.toInt = tZ) (tK : h.1 117 111 = t) : Ct y_Mod_see b_Mod_see 6 (some .int) 3 69 [.ref 116, .int c, .int o, .int s, .int b] h (q_Mod_seeX h c cZ o oZ s sZ b bZ w wZ g gZ t tZ) := by
  refine ct_ow R_Mod [some (.ref 116), some (.int c), some (.int o), some (.int s), some (.int b), none] rfl (by decide) rfl (Nat.le_of_ble_eq_true rfl) ?_
  have f0 : fr S_Mod_seeX h h := fr_rf
  have g1 : 2 ≤ wZ ∧ wZ ≤ 4 := inv_at hI wE wK.symm rfl
  have g2 : 2 ≤ gZ ∧ gZ ≤ 4 := inv_at hI gE gK.symm rfl
  have tB : 0 ≤ tZ ∧ tZ ≤ 8 := inv_at hI tE tK.symm rfl
  refine V_aload_n 0 d_Mod_see_0 rfl rfl ?_
  refine V_iload_n 1 d_Mod_see_1 rfl rfl ?_
  refine V_iload_n 2 d_Mod_see_2 rfl rfl ?_
  refine V_iload_n 3 d_Mod_see_3 rfl rfl ?_
  refine N_callVI [.int c, .int o, .int s] [] cv_Mod_226 sk_116 rfl d_Mod_see_4 rfl (Nat.le_of_ble_eq_true rfl) (by decide) (by decide) (c_Mod_isSeenX h hI c cZ cE o oZ oE s sZ sE w wZ wE wK g gZ gE gK) (fun z3 h4 z3Z z3E p5 => ?_)
  obtain ⟨eh4, p5⟩ := p5
  subst eh4
  refine V_if_ne 12 z3E d_Mod_see_7 (by decide) (fun c6 => ?_) (fun c6 => ?_)
  ·
    refine V_aload_n 0 d_Mod_see_12 rfl rfl ?_
    refine V_getR fa_Mod_7 sk_116 rfl d_Mod_see_13 ?_
    refine V_bipush 111 d_Mod_see_16 (by decide) ?_
    refine N_ialdK sk_117 tc_111 (by (first | decide +kernel | omega)) d_Mod_see_18 tK ?_
    refine V_bipush 8 d_Mod_see_19 (by decide) ?_
    refine V_icmp_ne 27 tE tc_8 d_Mod_see_21 (by decide) (fun c8 => ?_) (fun c8 => ?_)
    ·
      refine V_bipush 112 d_Mod_see_27 (by decide) ?_
      refine V_iconst 4 d_Mod_see_29 (by decide) ?_
      refine V_aload_n 0 d_Mod_see_30 rfl rfl ?_
      refine V_getR fa_Mod_7 sk_116 rfl d_Mod_see_31 ?_
      refine V_bipush 111 d_Mod_see_34 (by decide) ?_
      refine N_ialdK sk_117 tc_111 (by (first | decide +kernel | omega)) d_Mod_see_36 tK ?_
      refine V_imul tc_4 tE (by (first | decide +kernel | omega)) d_Mod_see_37 (fun z10 z10e z10E => ?_)
      refine V_iadd tc_112 z10E (by (first | decide +kernel | omega)) d_Mod_see_38 (fun z11 z11e z11E => ?_)
      refine V_istore 5 [some (.ref 116), some (.int c), some (.int o), some (.int s), some (.int b), some (.int z11)] d_Mod_see_39 (by decide) rfl rfl ?_
      refine V_aload_n 0 d_Mod_see_41 rfl rfl ?_
      refine V_getR fa_Mod_7 sk_116 rfl d_Mod_see_42 ?_
      refine V_iload d_Mod_see_45 rfl ?_
      refine V_iload_n 1 d_Mod_see_47 rfl rfl ?_
      refine N_iast sk_117 z11E (by (first | decide +kernel | omega)) d_Mod_see_48 (fun h12 eh12 => ?_)
      have hI13 : Inv h12 := inv_put hI eh12 (st_c (by (first | decide +kernel | omega))) cE (by (first | decide +kernel | omega))
      have f14 : fr S_Mod_seeX h h12 := fr_put f0 eh12 rfl
      refine V_aload_n 0 d_Mod_see_49 rfl rfl ?_
      refine V_getR fa_Mod_7 sk_116 rfl d_Mod_see_50 ?_
      refine V_iload d_Mod_see_53 rfl ?_
      refine V_iconst 1 d_Mod_see_55 (by decide) ?_
      refine V_iadd z11E tc_1 (by (first | decide +kernel | omega)) d_Mod_see_56 (fun z15 z15e z15E => ?_)
      refine V_iload_n 2 d_Mod_see_57 rfl rfl ?_
      refine N_iast sk_117 z15E (by (first | decide +kernel | omega)) d_Mod_see_58 (fun h16 eh16 => ?_)
      have hI17 : Inv h16 := inv_full hI13 eh16 (st_d (by (first | decide +kernel | omega)))
      have f18 : fr S_Mod_seeX h h16 := fr_put f14 eh16 rfl
      refine V_aload_n 0 d_Mod_see_59 rfl rfl ?_
      refine V_getR fa_Mod_7 sk_116 rfl d_Mod_see_60 ?_
      refine V_iload d_Mod_see_63 rfl ?_
      refine V_iconst 2 d_Mod_see_65 (by decide) ?_
      refine V_iadd z11E tc_2 (by (first | decide +kernel | omega)) d_Mod_see_66 (fun z19 z19e z19E => ?_)
      refine V_iload_n 3 d_Mod_see_67 rfl rfl ?_
      refine N_iast sk_117 z19E (by (first | decide +kernel | omega)) d_Mod_see_68 (fun h20 eh20 => ?_)
      have hI21 : Inv h20 := inv_full hI17 eh20 (st_d (by (first | decide +kernel | omega)))
      have f22 : fr S_Mod_seeX h h20 := fr_put f18 eh20 rfl
      refine V_aload_n 0 d_Mod_see_69 rfl rfl ?_
      refine V_getR fa_Mod_7 sk_116 rfl d_Mod_see_70 ?_
      refine V_iload d_Mod_see_73 rfl ?_
      refine V_iconst 3 d_Mod_see_75 (by decide) ?_
      refine V_iadd z11E tc_3 (by (first | decide +kernel | omega)) d_Mod_see_76 (fun z23 z23e z23E => ?_)
      refine V_iload d_Mod_see_77 rfl ?_
      refine N_callSI [.int b] [.int z23, .ref 117] cs_Mod_196 d_Mod_see_79 rfl (Nat.le_of_ble_eq_true rfl) (by decide) (by decide) (c_Mod_flag h20 b bZ bE) (fun z24 h25 z24Z z24E p26 => ?_)
      obtain ⟨eh25, p26⟩ := p26
      subst eh25
      refine N_iast sk_117 z23E (by (first | decide +kernel | omega)) d_Mod_see_82 (fun h27 eh27 => ?_)
      have hI28 : Inv h27 := inv_full hI21 eh27 (st_d (by (first | decide +kernel | omega)))
      have f29 : fr S_Mod_seeX h h27 := fr_put f22 eh27 rfl
      refine V_aload_n 0 d_Mod_see_83 rfl rfl ?_
      refine V_getR fa_Mod_7 sk_116 rfl d_Mod_see_84 ?_
      refine V_bipush 111 d_Mod_see_87 (by decide) ?_
      refine V_dup2 d_Mod_see_89 rfl rfl ?_
      refine N_ialdK sk_117 tc_111 (by (first | decide +kernel | omega)) d_Mod_see_90 (kn_nei eh27 (kn_nei eh20 (kn_nei eh16 (kn_nei eh12 tK (by (first | decide +kernel | omega))) (by (first | decide +kernel | omega))) (by (first | decide +kernel | omega))) (by (first | decide +kernel | omega))) ?_
      refine V_iconst 1 d_Mod_see_91 (by decide) ?_
      refine V_iadd tE tc_1 (by (first | decide +kernel | omega)) d_Mod_see_92 (fun z31 z31e z31E => ?_)
      refine N_iast sk_117 tc_111 (by (first | decide +kernel | omega)) d_Mod_see_93 (fun h32 eh32 => ?_)
      have hI33 : Inv h32 := inv_put (lo := 0) (hi := 8) hI28 eh32 rfl z31E (by (first | decide +kernel | omega))
      have f34 : fr S_Mod_seeX h h32 := fr_put f29 eh32 rfl
      refine V_aload_n 0 d_Mod_see_94 rfl rfl ?_
      refine V_getR fa_Mod_7 sk_116 rfl d_Mod_see_95 ?_
      refine V_bipush 111 d_Mod_see_98 (by decide) ?_
      refine N_ialdK sk_117 tc_111 (by (first | decide +kernel | omega)) d_Mod_see_100 (kn_put eh32) ?_
      exact V_iret rfl d_Mod_see_101 ⟨z31, rfl, ⟨hI33, f34, (Or.inl ⟨by (first | decide +kernel | omega), by (first | decide +kernel | omega), z31, z24, by rw [z31E], p26, (by rw [eh32, eh27, eh20, eh16, eh12] <;> rfl), rfl⟩)⟩⟩
    ·
      refine V_bipush (-3) d_Mod_see_24 (by decide) ?_
      exact V_iret rfl d_Mod_see_26 ⟨(-3), rfl, ⟨hI, f0, (Or.inr (Or.inl ⟨by (first | decide +kernel | omega), by (first | decide +kernel | omega), rfl, tc_m3⟩))⟩⟩
  ·
    refine V_iconst (-1) d_Mod_see_10 (by decide) ?_
    exact V_iret rfl d_Mod_see_11 ⟨(-1), rfl, ⟨hI, f0, (Or.inr (Or.inr ⟨by (first | decide +kernel | omega), rfl, tc_m1⟩))⟩⟩
