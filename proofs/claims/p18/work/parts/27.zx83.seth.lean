def S_Land_raiseWaterX_0 : List (Nat × Option Nat) := [(2, none)]
abbrev q_Land_raiseWaterX_0 (h : Hp) (v : Int32) (vZ : Int) (w : Int32) (wZ : Int) (g : Int32) (gZ : Int) : Option Value → Hp → Prop := pVd (fun h' => Inv h' ∧ fr S_Land_raiseWaterX_0 h h' ∧ (rW h h' 2 v (wZ * gZ)))
set_option maxRecDepth 100000 in
theorem c_Land_raiseWaterX_0 (h : Hp) (hI : Inv h) (v : Int32) (vZ : Int) (vE : v.toInt = vZ) (w : Int32) (wZ : Int) (wE : w.toInt = wZ) (wK : h.1 1 0 = w) (g : Int32) (gZ : Int) (gE : g.toInt = gZ) (gK : h.1 1 1 = g) : Ct y_Land_raiseWater b_Land_raiseWater 3 none 1 21 [.ref 1, .int v] h (q_Land_raiseWaterX_0 h v vZ w wZ g gZ) := by
  refine ct_ow R_Land [some (.ref 1), some (.int v), none] rfl (by decide) rfl (Nat.le_of_ble_eq_true rfl) ?_
  have f0 : fr S_Land_raiseWaterX_0 h h := fr_rf
  have g1 : 2 ≤ wZ ∧ wZ ≤ 4 := inv_at hI wE wK.symm rfl
  have g2 : 2 ≤ gZ ∧ gZ ≤ 4 := inv_at hI gE gK.symm rfl
  have m24 := mul24 (A := wZ) (B := gZ) (by omega) (by omega)
  refine V_iconst 0 d_Land_raiseWater_0 (by decide) ?_
  refine V_istore_n 2 [some (.ref 1), some (.int v), some (.int 0)] d_Land_raiseWater_1 rfl (by decide) rfl rfl ?_
  have L3 : ∀ (nn : Nat) (v5 : Int32) (v5Z : Int) (h6 : Hp), v5.toInt = v5Z → Inv h6 → fr S_Land_raiseWaterX_0 h h6 → h6.1 1 0 = w → h6.1 1 1 = g → 0 ≤ v5Z ∧ v5Z ≤ wZ * gZ → rW h h6 2 v v5Z → 16 - v5Z < (nn : Int) → V R_Land b_Land_raiseWater 3 none 1 21 (q_Land_raiseWaterX_0 h v vZ w wZ g gZ) h6 2 [some (.ref 1), some (.int v), some (.int v5)] [] := by
    intro nn
    induction nn with
    | zero => intro v5 v5Z h6 v5E Ih6 Fh6 K7 K8 q9 q10 hm11; exact absurd hm11 (by omega)
    | succ nn ihL3 =>
      intro v5 v5Z h6 v5E Ih6 Fh6 K7 K8 q9 q10 hm11
      refine V_iload_n 2 d_Land_raiseWater_2 rfl rfl ?_
      refine V_aload_n 0 d_Land_raiseWater_3 rfl rfl ?_
      refine N_callVI [] [.int v5] cv_Land_52 sk_1 rfl d_Land_raiseWater_4 rfl (Nat.le_of_ble_eq_true rfl) (by decide) (by decide) (c_Land_cells_0 h6 Ih6 w wZ wE K7 g gZ gE K8) (fun z12 h13 z12Z z12E p14 => ?_)
      obtain ⟨eh13, p14⟩ := p14
      subst eh13
      refine V_icmp_ge 43 v5E z12E d_Land_raiseWater_7 (by decide) (fun c15 => ?_) (fun c15 => ?_)
      ·
        exact V_vret rfl d_Land_raiseWater_43 ⟨rfl, ⟨Ih6, Fh6, (by rw [show wZ * gZ = v5Z by omega]; assumption)⟩⟩
      ·
        refine V_aload_n 0 d_Land_raiseWater_10 rfl rfl ?_
        refine V_getR fa_Land_9 sk_1 rfl d_Land_raiseWater_11 ?_
        refine V_iload_n 2 d_Land_raiseWater_14 rfl rfl ?_
        refine N_iald sk_2 v5E (by omega) d_Land_raiseWater_15 (fun z16 z16Z z16E z16e => ?_)
        refine V_if_le 37 z16E d_Land_raiseWater_16 (by decide) (fun c17 => ?_) (fun c17 => ?_)
        ·
          obtain ⟨z18, z18E, z18e⟩ : ∃ y : Int32, y.toInt = v5Z + 1 ∧ y = v5 + Int32.ofInt 1 := ⟨_, ti_add v5E (by decide) (by omega), rfl⟩
          refine V_iinc 2 [some (.ref 1), some (.int v), some (.int z18)] d_Land_raiseWater_37 rfl z18e.symm (by decide) rfl rfl ?_
          refine V_goto 2 d_Land_raiseWater_40 (by decide) ?_
          exact ihL3 z18 ((v5Z + 1)) h6 z18E Ih6 Fh6 K7 K8 (by omega) (rW_s0 (by assumption) (by omega) z16e z16E (by omega)) (by omega)
        ·
          refine V_aload_n 0 d_Land_raiseWater_19 rfl rfl ?_
          refine V_getR fa_Land_9 sk_1 rfl d_Land_raiseWater_20 ?_
          refine V_iload_n 2 d_Land_raiseWater_23 rfl rfl ?_
          refine V_iconst 1 d_Land_raiseWater_24 (by decide) ?_
          refine V_aload_n 0 d_Land_raiseWater_25 rfl rfl ?_
          refine V_getR fa_Land_9 sk_1 rfl d_Land_raiseWater_26 ?_
          refine V_iload_n 2 d_Land_raiseWater_29 rfl rfl ?_
          refine N_iald sk_2 v5E (by omega) d_Land_raiseWater_30 (fun z19 z19Z z19E z19e => ?_)
          have g20 : z16Z = z19Z := by rw [← z16E, ← z19E, z16e, z19e]
          refine V_iload_n 1 d_Land_raiseWater_31 rfl rfl ?_
          refine N_isubw d_Land_raiseWater_32 (fun z21 z21Z z21E z21e => ?_)
          refine N_max tc_1 z21E wm_Land_69 d_Land_raiseWater_33 (Nat.le_of_ble_eq_true rfl) (by decide) wmax1 wM2 wmax3 (fun z22 z22Z z22E z22e z22g => ?_)
          refine N_iast sk_2 v5E (by omega) d_Land_raiseWater_36 (fun h23 eh23 => ?_)
          have hI24 : Inv h23 := inv_full Ih6 eh23 rfl
          have f25 : fr S_Land_raiseWaterX_0 h h23 := fr_put Fh6 eh23 rfl
          obtain ⟨z26, z26E, z26e⟩ : ∃ y : Int32, y.toInt = v5Z + 1 ∧ y = v5 + Int32.ofInt 1 := ⟨_, ti_add v5E (by decide) (by omega), rfl⟩
          refine V_iinc 2 [some (.ref 1), some (.int v), some (.int z26)] d_Land_raiseWater_37 rfl z26e.symm (by decide) rfl rfl ?_
          refine V_goto 2 d_Land_raiseWater_40 (by decide) ?_
          exact ihL3 z26 ((v5Z + 1)) h23 z26E hI24 f25 (kn_ne eh23 K7 (by decide)) (kn_ne eh23 K8 (by decide)) (by omega) (rW_s1 (by assumption) (by omega) z19e (rn1_max z19E (by omega) z21e z21E z22E z22g) eh23) (by omega)
  exact L3 (Int.toNat ((16 - 0 : Int) + 1)) 0 0 h tc_0 hI f0 wK gK (by omega) rW_0 (by omega)
def S_Rod_rainX : List (Nat × Option Nat) := [(2, none)]
abbrev q_Rod_rainX (h : Hp) (v : Int32) (vZ : Int) (w : Int32) (wZ : Int) (g : Int32) (gZ : Int) : Option Value → Hp → Prop := pInt (fun r h' => Inv h' ∧ fr S_Rod_rainX h h' ∧ ((0 ≤ vZ ∧ vZ ≤ 8) ∧ rW h h' 2 v (wZ * gZ) ∨ ¬ (0 ≤ vZ ∧ vZ ≤ 8) ∧ h' = h))
set_option maxRecDepth 100000 in
theorem c_Rod_rainX (h : Hp) (hI : Inv h) (v : Int32) (vZ : Int) (vE : v.toInt = vZ) (w : Int32) (wZ : Int) (wE : w.toInt = wZ) (wK : h.1 1 0 = w) (g : Int32) (gZ : Int) (gE : g.toInt = gZ) (gK : h.1 1 1 = g) : Ct y_Rod_rain b_Rod_rain 2 (some .int) 3 63 [.ref 85, .int v] h (q_Rod_rainX h v vZ w wZ g gZ) := by
  refine ct_ow R_Rod [some (.ref 85), some (.int v)] rfl (by decide) rfl (Nat.le_of_ble_eq_true rfl) ?_
  have f0 : fr S_Rod_rainX h h := fr_rf
  have g1 : 2 ≤ wZ ∧ wZ ≤ 4 := inv_at hI wE wK.symm rfl
  have g2 : 2 ≤ gZ ∧ gZ ≤ 4 := inv_at hI gE gK.symm rfl
  refine V_iload_n 1 d_Rod_rain_0 rfl rfl ?_
  refine V_if_lt 10 vE d_Rod_rain_1 (by decide) (fun c3 => ?_) (fun c3 => ?_)
  ·
    refine V_iconst (-1) d_Rod_rain_10 (by decide) ?_
    exact V_iret rfl d_Rod_rain_11 ⟨(-1), rfl, ⟨hI, f0, (Or.inr ⟨by omega, rfl⟩)⟩⟩
  ·
    refine V_iload_n 1 d_Rod_rain_4 rfl rfl ?_
    refine V_bipush 8 d_Rod_rain_5 (by decide) ?_
    refine V_icmp_le 12 vE tc_8 d_Rod_rain_7 (by decide) (fun c4 => ?_) (fun c4 => ?_)
    ·
      refine V_aload_n 0 d_Rod_rain_12 rfl rfl ?_
      refine V_getR fa_Rod_12 sk_85 rfl d_Rod_rain_13 ?_
      refine V_getR fa_Rod_91 sk_0 rfl d_Rod_rain_16 ?_
      refine V_iload_n 1 d_Rod_rain_19 rfl rfl ?_
      refine N_callVV [.int v] [] cv_Rod_164 sk_1 rfl d_Rod_rain_20 rfl (Nat.le_of_ble_eq_true rfl) (by decide) (by decide) (c_Land_raiseWaterX_0 h hI v vZ vE w wZ wE wK g gZ gE gK) (fun h6 p7 => ?_)
      obtain ⟨hI8, fh6, p7⟩ := p7
      have f9 : fr S_Rod_rainX h h6 := fr_call f0 fh6 rfl
      refine V_aload_n 0 d_Rod_rain_23 rfl rfl ?_
      refine V_getR fa_Rod_12 sk_85 rfl d_Rod_rain_24 ?_
      refine V_getR fa_Rod_91 sk_0 rfl d_Rod_rain_27 ?_
      refine N_callVI [] [] cv_Rod_168 sk_1 rfl d_Rod_rain_30 rfl (Nat.le_of_ble_eq_true rfl) (by decide) (by decide) (c_Land_wells_0 h6 hI8 w wZ wE (kn_call fh6 wK rfl) g gZ gE (kn_call fh6 gK rfl)) (fun z10 h11 z10Z z10E p12 => ?_)
      subst p12
      exact V_iret rfl d_Rod_rain_33 ⟨z10, rfl, ⟨hI8, f9, (Or.inl ⟨by omega, p7⟩)⟩⟩
    ·
      refine V_iconst (-1) d_Rod_rain_10 (by decide) ?_
      exact V_iret rfl d_Rod_rain_11 ⟨(-1), rfl, ⟨hI, f0, (Or.inr ⟨by omega, rfl⟩)⟩⟩
def S_Mod_rainX : List (Nat × Option Nat) := [(117, none)]
abbrev q_Mod_rainX (h : Hp) (v : Int32) (vZ : Int) (w : Int32) (wZ : Int) (g : Int32) (gZ : Int) : Option Value → Hp → Prop := pInt (fun r h' => Inv h' ∧ fr S_Mod_rainX h h' ∧ ((0 ≤ vZ ∧ vZ ≤ 8) ∧ rW h h' 117 v (wZ * gZ) ∧ (∀ j : Nat, 16 ≤ j → h'.1 117 j = h.1 117 j) ∨ ¬ (0 ≤ vZ ∧ vZ ≤ 8) ∧ h' = h))
set_option maxRecDepth 100000 in
theorem c_Mod_rainX (h : Hp) (hI : Inv h) (v : Int32) (vZ : Int) (vE : v.toInt = vZ) (w : Int32) (wZ : Int) (wE : w.toInt = wZ) (wK : h.1 116 2 = w) (g : Int32) (gZ : Int) (gE : g.toInt = gZ) (gK : h.1 116 3 = g) (hy0 : ∀ i : Nat, i < 16 → 0 ≤ (h.1 117 i).toInt) : Ct y_Mod_rain b_Mod_rain 4 (some .int) 3 64 [.ref 116, .int v] h (q_Mod_rainX h v vZ w wZ g gZ) := by
  refine ct_ow R_Mod [some (.ref 116), some (.int v), none, none] rfl (by decide) rfl (Nat.le_of_ble_eq_true rfl) ?_
  have f0 : fr S_Mod_rainX h h := fr_rf
  have g1 : 2 ≤ wZ ∧ wZ ≤ 4 := inv_at hI wE wK.symm rfl
  have g2 : 2 ≤ gZ ∧ gZ ≤ 4 := inv_at hI gE gK.symm rfl
  have m24 := mul24 (A := wZ) (B := gZ) (by omega) (by omega)
  refine V_iload_n 1 d_Mod_rain_0 rfl rfl ?_
  refine V_i2l d_Mod_rain_1 (fun z3 z3e z3E => ?_)
  have z3F : z3.toInt = vZ := z3E.trans vE
  refine V_lconst 0 d_Mod_rain_2 (by decide) ?_
  refine V_ldc2 d_Mod_rain_3 wl_Mod_221 ?_
  refine N_callSI [.long z3, .long 0, .long 8] [] cs_Mod_95 d_Mod_rain_6 rfl (Nat.le_of_ble_eq_true rfl) (by decide) (by decide) (c_Mod_in h z3 vZ z3F 0 0 tl_0 8 8 tl_8) (fun z4 h5 z4Z z4E p6 => ?_)
  obtain ⟨eh5, p6⟩ := p6
  subst eh5
  refine V_if_ne 14 z4E d_Mod_rain_9 (by decide) (fun c7 => ?_) (fun c7 => ?_)
  ·
    refine V_iconst 0 d_Mod_rain_14 (by decide) ?_
    refine V_istore_n 2 [some (.ref 116), some (.int v), some (.int 0), none] d_Mod_rain_15 rfl (by decide) rfl rfl ?_
    have L8 : ∀ (nn : Nat) (v10 : Int32) (v10Z : Int) (h11 : Hp), v10.toInt = v10Z → Inv h11 → fr S_Mod_rainX h h11 → h11.1 116 2 = w → h11.1 116 3 = g → 0 ≤ v10Z ∧ v10Z ≤ wZ * gZ → rW h h11 117 v v10Z → (∀ j : Nat, 16 ≤ j → h11.1 117 j = h.1 117 j) → 16 - v10Z < (nn : Int) → V R_Mod b_Mod_rain 4 (some .int) 3 64 (q_Mod_rainX h v vZ w wZ g gZ) h11 16 [some (.ref 116), some (.int v), some (.int v10), none] [] := by
      intro nn
      induction nn with
      | zero => intro v10 v10Z h11 v10E Ih11 Fh11 K12 K13 q14 q15 q16 hm17; exact absurd hm17 (by omega)
      | succ nn ihL8 =>
        intro v10 v10Z h11 v10E Ih11 Fh11 K12 K13 q14 q15 q16 hm17
        refine V_iload_n 2 d_Mod_rain_16 rfl rfl ?_
        refine V_aload_n 0 d_Mod_rain_17 rfl rfl ?_
        refine N_callVI [] [.int v10] cv_Mod_183 sk_116 rfl d_Mod_rain_18 rfl (Nat.le_of_ble_eq_true rfl) (by decide) (by decide) (c_Mod_cellMany h11 Ih11 w wZ wE K12 g gZ gE K13) (fun z18 h19 z18Z z18E p20 => ?_)
        obtain ⟨eh19, p20⟩ := p20
        subst eh19
        refine V_icmp_ge 69 v10E z18E d_Mod_rain_21 (by decide) (fun c21 => ?_) (fun c21 => ?_)
        ·
          refine V_aload_n 0 d_Mod_rain_69 rfl rfl ?_
          refine N_callVI [] [] cv_Mod_223 sk_116 rfl d_Mod_rain_70 rfl (Nat.le_of_ble_eq_true rfl) (by decide) (by decide) (c_Mod_wells h11 Ih11 w wZ wE K12 g gZ gE K13) (fun z22 h23 z22Z z22E p24 => ?_)
          subst p24
          exact V_iret rfl d_Mod_rain_73 ⟨z22, rfl, ⟨Ih11, Fh11, (Or.inl ⟨by omega, (by rw [show wZ * gZ = v10Z by omega]; assumption), by assumption⟩)⟩⟩
        ·
          refine V_aload_n 0 d_Mod_rain_24 rfl rfl ?_
          refine V_getR fa_Mod_7 sk_116 rfl d_Mod_rain_25 ?_
          refine V_iconst 0 d_Mod_rain_28 (by decide) ?_
          refine V_iload_n 2 d_Mod_rain_29 rfl rfl ?_
          refine V_iadd tc_0 v10E (by omega) d_Mod_rain_30 (fun z25 z25e z25E => ?_)
          refine N_iald sk_117 z25E (by omega) d_Mod_rain_31 (fun z26 z26Z z26E z26e => ?_)
          have g27 := rM_nn hy0 (show rW h h11 117 v v10Z from by assumption) (by omega) z26e z26E
          refine V_istore_n 3 [some (.ref 116), some (.int v), some (.int v10), some (.int z26)] d_Mod_rain_32 rfl (by decide) rfl rfl ?_
          refine V_aload_n 0 d_Mod_rain_33 rfl rfl ?_
          refine V_getR fa_Mod_7 sk_116 rfl d_Mod_rain_34 ?_
          refine V_iconst 0 d_Mod_rain_37 (by decide) ?_
          refine V_iload_n 2 d_Mod_rain_38 rfl rfl ?_
          refine V_iadd tc_0 v10E (by omega) d_Mod_rain_39 (fun z28 z28e z28E => ?_)
          refine V_iload_n 3 d_Mod_rain_40 rfl rfl ?_
          refine V_if_ne 48 z26E d_Mod_rain_41 (by decide) (fun c29 => ?_) (fun c29 => ?_)
          ·
            refine V_iload_n 3 d_Mod_rain_48 rfl rfl ?_
            refine V_iload_n 1 d_Mod_rain_49 rfl rfl ?_
            refine N_isubw d_Mod_rain_50 (fun z30 z30Z z30E z30e => ?_)
            refine V_iconst 1 d_Mod_rain_51 (by decide) ?_
            refine V_icmp_ge 59 z30E tc_1 d_Mod_rain_52 (by decide) (fun c31 => ?_) (fun c31 => ?_)
            ·
              refine V_iload_n 3 d_Mod_rain_59 rfl rfl ?_
              refine V_iload_n 1 d_Mod_rain_60 rfl rfl ?_
              refine N_isubw d_Mod_rain_61 (fun z32 z32Z z32E z32e => ?_)
              refine N_iast sk_117 z28E (by omega) d_Mod_rain_62 (fun h33 eh33 => ?_)
              have hI34 : Inv h33 := inv_full Ih11 eh33 (st_lo (by omega))
              have f35 : fr S_Mod_rainX h h33 := fr_put Fh11 eh33 rfl
              obtain ⟨z36, z36E, z36e⟩ : ∃ y : Int32, y.toInt = v10Z + 1 ∧ y = v10 + Int32.ofInt 1 := ⟨_, ti_add v10E (by decide) (by omega), rfl⟩
              refine V_iinc 2 [some (.ref 116), some (.int v), some (.int z36), some (.int z26)] d_Mod_rain_63 rfl z36e.symm (by decide) rfl rfl ?_
              refine V_goto 16 d_Mod_rain_66 (by decide) ?_
              refine V_drop 3 [some (.ref 116), some (.int v), some (.int z36), none] rfl ?_
              exact ihL8 z36 ((v10Z + 1)) h33 z36E hI34 f35 (kn_ne eh33 K12 (by decide)) (kn_ne eh33 K13 (by decide)) (by omega) (rW_s1 (by assumption) (by omega) (z26e.trans (by rw [Int.zero_add])) (rn1_m2 z26E (by omega) z30e z32e z30E (by omega)) (show _ = pI _ 117 (v10Z).toNat _ from by rw [← Int.zero_add v10Z]; exact eh33)) (fun j hj => by rw [eh33, pI_at, if_neg (by omega)]; exact (show ∀ j : Nat, 16 ≤ j → h11.1 117 j = h.1 117 j from by assumption) j hj) (by omega)
            ·
              refine V_iconst 1 d_Mod_rain_55 (by decide) ?_
              refine V_goto 62 d_Mod_rain_56 (by decide) ?_
              refine N_iast sk_117 z28E (by omega) d_Mod_rain_62 (fun h37 eh37 => ?_)
              have hI38 : Inv h37 := inv_full Ih11 eh37 (st_lo (by omega))
              have f39 : fr S_Mod_rainX h h37 := fr_put Fh11 eh37 rfl
              obtain ⟨z40, z40E, z40e⟩ : ∃ y : Int32, y.toInt = v10Z + 1 ∧ y = v10 + Int32.ofInt 1 := ⟨_, ti_add v10E (by decide) (by omega), rfl⟩
              refine V_iinc 2 [some (.ref 116), some (.int v), some (.int z40), some (.int z26)] d_Mod_rain_63 rfl z40e.symm (by decide) rfl rfl ?_
              refine V_goto 16 d_Mod_rain_66 (by decide) ?_
              refine V_drop 3 [some (.ref 116), some (.int v), some (.int z40), none] rfl ?_
              exact ihL8 z40 ((v10Z + 1)) h37 z40E hI38 f39 (kn_ne eh37 K12 (by decide)) (kn_ne eh37 K13 (by decide)) (by omega) (rW_s1 (by assumption) (by omega) (z26e.trans (by rw [Int.zero_add])) (rn1_m1 z26E (by omega) z30e z30E (by omega)) (show _ = pI _ 117 (v10Z).toNat _ from by rw [← Int.zero_add v10Z]; exact eh37)) (fun j hj => by rw [eh37, pI_at, if_neg (by omega)]; exact (show ∀ j : Nat, 16 ≤ j → h11.1 117 j = h.1 117 j from by assumption) j hj) (by omega)
          ·
            refine V_iconst 0 d_Mod_rain_44 (by decide) ?_
            refine V_goto 62 d_Mod_rain_45 (by decide) ?_
            refine N_iast sk_117 z28E (by omega) d_Mod_rain_62 (fun h41 eh41 => ?_)
            have hI42 : Inv h41 := inv_full Ih11 eh41 (st_lo (by omega))
            have f43 : fr S_Mod_rainX h h41 := fr_put Fh11 eh41 rfl
            obtain ⟨z44, z44E, z44e⟩ : ∃ y : Int32, y.toInt = v10Z + 1 ∧ y = v10 + Int32.ofInt 1 := ⟨_, ti_add v10E (by decide) (by omega), rfl⟩
            refine V_iinc 2 [some (.ref 116), some (.int v), some (.int z44), some (.int z26)] d_Mod_rain_63 rfl z44e.symm (by decide) rfl rfl ?_
            refine V_goto 16 d_Mod_rain_66 (by decide) ?_
            refine V_drop 3 [some (.ref 116), some (.int v), some (.int z44), none] rfl ?_
            exact ihL8 z44 ((v10Z + 1)) h41 z44E hI42 f43 (kn_ne eh41 K12 (by decide)) (kn_ne eh41 K13 (by decide)) (by omega) (rW_s1 (by assumption) (by omega) (z26e.trans (by rw [Int.zero_add])) (rn1_m0 (by rw [z26E]; omega)) (show _ = pI _ 117 (v10Z).toNat _ from by rw [← Int.zero_add v10Z]; exact eh41)) (fun j hj => by rw [eh41, pI_at, if_neg (by omega)]; exact (show ∀ j : Nat, 16 ≤ j → h11.1 117 j = h.1 117 j from by assumption) j hj) (by omega)
    exact L8 (Int.toNat ((16 - 0 : Int) + 1)) 0 0 h tc_0 hI f0 wK gK (by omega) rW_0 (fun _ _ => rfl) (by omega)
  ·
    refine V_iconst (-1) d_Mod_rain_12 (by decide) ?_
    exact V_iret rfl d_Mod_rain_13 ⟨(-1), rfl, ⟨hI, f0, (Or.inr ⟨by omega, rfl⟩)⟩⟩
