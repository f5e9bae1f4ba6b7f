abbrev q_Rod_natureOfX (h : Hp) (d : Int32) (dZ : Int) : Option Value → Hp → Prop := pInt (fun r h' => h = h' ∧ (r.toInt = rN dZ.toNat))
set_option maxRecDepth 100000 in
theorem c_Rod_natureOfX (h : Hp) (d : Int32) (dZ : Int) (dE : d.toInt = dZ) (hy0 : 0 ≤ dZ ∧ dZ ≤ 20) : Ct y_Rod_natureOf b_Rod_natureOf 1 (some .int) 0 0 [.int d] h (q_Rod_natureOfX h d dZ) := by
  refine ct_ow R_Rod [some (.int d)] rfl (by decide) rfl (Nat.le_of_ble_eq_true rfl) ?_
  have f0 : fr [] h h := fr_rf
  refine V_iload_n 0 d_Rod_natureOf_0 rfl rfl ?_
  refine V_bipush 9 d_Rod_natureOf_1 (by decide) ?_
  refine V_icmp_ge 8 dE tc_9 d_Rod_natureOf_3 (by decide) (fun c1 => ?_) (fun c1 => ?_)
  ·
    refine V_iload_n 0 d_Rod_natureOf_8 rfl rfl ?_
    refine V_bipush 18 d_Rod_natureOf_9 (by decide) ?_
    refine V_icmp_ge 18 dE tc_18 d_Rod_natureOf_11 (by decide) (fun c2 => ?_) (fun c2 => ?_)
    ·
      refine V_iload_n 0 d_Rod_natureOf_18 rfl rfl ?_
      refine V_bipush 18 d_Rod_natureOf_19 (by decide) ?_
      refine V_isub dE tc_18 (by omega) d_Rod_natureOf_21 (fun z3 z3e z3E => ?_)
      refine V_iconst 1 d_Rod_natureOf_22 (by decide) ?_
      refine V_iadd z3E tc_1 (by omega) d_Rod_natureOf_23 (fun z4 z4e z4E => ?_)
      exact V_iret rfl d_Rod_natureOf_24 ⟨z4, rfl, ⟨rfl, (rN_u (d := dZ) (by omega) (by omega) z4E)⟩⟩
    ·
      refine V_iconst 4 d_Rod_natureOf_14 (by decide) ?_
      refine V_goto 24 d_Rod_natureOf_15 (by decide) ?_
      exact V_iret rfl d_Rod_natureOf_24 ⟨4, rfl, ⟨rfl, (rN_4 (d := dZ) (by omega) (by omega) tc_4)⟩⟩
  ·
    refine V_iconst 0 d_Rod_natureOf_6 (by decide) ?_
    exact V_iret rfl d_Rod_natureOf_7 ⟨0, rfl, ⟨rfl, (rN_0 (d := dZ) (by omega) (by omega) tc_0)⟩⟩
abbrev q_Rod_reachOfX (h : Hp) (d : Int32) (dZ : Int) : Option Value → Hp → Prop := pInt (fun r h' => h = h' ∧ (r.toInt = rR dZ.toNat))
set_option maxRecDepth 100000 in
theorem c_Rod_reachOfX (h : Hp) (d : Int32) (dZ : Int) (dE : d.toInt = dZ) (hy0 : 0 ≤ dZ ∧ dZ ≤ 20) : Ct y_Rod_reachOf b_Rod_reachOf 1 (some .int) 0 0 [.int d] h (q_Rod_reachOfX h d dZ) := by
  refine ct_ow R_Rod [some (.int d)] rfl (by decide) rfl (Nat.le_of_ble_eq_true rfl) ?_
  have f0 : fr [] h h := fr_rf
  refine V_iload_n 0 d_Rod_reachOf_0 rfl rfl ?_
  refine V_bipush 9 d_Rod_reachOf_1 (by decide) ?_
  refine N_irem dE tc_9 (by omega) d_Rod_reachOf_3 (fun z1 z1e z1E => ?_)
  refine V_iconst 1 d_Rod_reachOf_4 (by decide) ?_
  refine V_iadd z1E tc_1 (by omega) d_Rod_reachOf_5 (fun z2 z2e z2E => ?_)
  exact V_iret rfl d_Rod_reachOf_6 ⟨z2, rfl, ⟨rfl, (by rw [z2E]; unfold rR; omega)⟩⟩
abbrev q_Rod_reachBitsX (h : Hp) (d : Int32) (dZ : Int) : Option Value → Hp → Prop := pInt (fun r h' => h = h' ∧ (BP r (fun j => dZ < 18 ∧ rR dZ.toNat = (j : Int) ∨ 18 ≤ dZ ∧ 1 ≤ j ∧ j ≤ 9)))
set_option maxRecDepth 100000 in
theorem c_Rod_reachBitsX (h : Hp) (d : Int32) (dZ : Int) (dE : d.toInt = dZ) (hy0 : 0 ≤ dZ ∧ dZ ≤ 20) : Ct y_Rod_reachBits b_Rod_reachBits 1 (some .int) 1 20 [.int d] h (q_Rod_reachBitsX h d dZ) := by
  refine ct_ow R_Rod [some (.int d)] rfl (by decide) rfl (Nat.le_of_ble_eq_true rfl) ?_
  have f0 : fr [] h h := fr_rf
  refine V_iload_n 0 d_Rod_reachBits_0 rfl rfl ?_
  refine V_bipush 18 d_Rod_reachBits_1 (by decide) ?_
  refine V_icmp_ge 15 dE tc_18 d_Rod_reachBits_3 (by decide) (fun c1 => ?_) (fun c1 => ?_)
  ·
    refine V_sipush 1022 d_Rod_reachBits_15 (by decide) ?_
    exact V_iret rfl d_Rod_reachBits_18 ⟨1022, rfl, ⟨rfl, (rB_9 (by omega))⟩⟩
  ·
    refine V_iconst 1 d_Rod_reachBits_6 (by decide) ?_
    refine V_iload_n 0 d_Rod_reachBits_7 rfl rfl ?_
    refine N_callSI [.int d] [.int 1] cs_Rod_318 d_Rod_reachBits_8 rfl (Nat.le_of_ble_eq_true rfl) (by decide) (by decide) (c_Rod_reachOfX h d dZ dE (by omega)) (fun z2 h3 z2Z z2E p4 => ?_)
    obtain ⟨eh3, p4⟩ := p4
    subst eh3
    refine N_ishl d_Rod_reachBits_11 (fun z5 z5Z z5E z5e => ?_)
    refine V_goto 18 d_Rod_reachBits_12 (by decide) ?_
    exact V_iret rfl d_Rod_reachBits_18 ⟨z5, rfl, ⟨rfl, (rB_1 (d := d) (by omega) p4 z5e)⟩⟩
abbrev q_Land_twitchingRodsX_0 (h : Hp) (c : Int32) (cZ : Int) (o : Int32) (oZ : Int) (s : Int32) (sZ : Int) : Option Value → Hp → Prop := pInt (fun r h' => h = h' ∧ (BP r (fun j => j < 21 ∧ twC h (rN j) (rR j) cZ.toNat oZ sZ)))
set_option maxRecDepth 100000 in
theorem c_Land_twitchingRodsX_0 (h : Hp) (hI : Inv h) (c : Int32) (cZ : Int) (cE : c.toInt = cZ) (o : Int32) (oZ : Int) (oE : o.toInt = oZ) (s : Int32) (sZ : Int) (sE : s.toInt = sZ) (hy0 : 0 ≤ cZ ∧ cZ ≤ 15) (hy1 : 0 ≤ sZ) (hy2 : ∀ i : Nat, i < 16 → 0 ≤ (h.1 3 i).toInt ∧ (h.1 3 i).toInt ≤ 1) : Ct y_Land_twitchingRods b_Land_twitchingRods 6 (some .int) 1 27 [.ref 1, .int c, .int o, .int s] h (q_Land_twitchingRodsX_0 h c cZ o oZ s sZ) := by
  refine ct_ow R_Land [some (.ref 1), some (.int c), some (.int o), some (.int s), none, none] rfl (by decide) rfl (Nat.le_of_ble_eq_true rfl) ?_
  have f0 : fr [] h h := fr_rf
  refine V_iconst 0 d_Land_twitchingRods_0 (by decide) ?_
  refine V_istore 4 [some (.ref 1), some (.int c), some (.int o), some (.int s), some (.int 0), none] d_Land_twitchingRods_1 (by decide) rfl rfl ?_
  refine V_iconst 0 d_Land_twitchingRods_3 (by decide) ?_
  refine V_istore 5 [some (.ref 1), some (.int c), some (.int o), some (.int s), some (.int 0), some (.int 0)] d_Land_twitchingRods_4 (by decide) rfl rfl ?_
  have L1 : ∀ (nn : Nat) (v3 : Int32) (v3Z : Int) (v4 : Int32) (v4Z : Int), v3.toInt = v3Z → v4.toInt = v4Z → 0 ≤ v4Z ∧ v4Z ≤ 21 → BP v3 (fun j => j < (v4Z).toNat ∧ twC h (rN j) (rR j) cZ.toNat oZ sZ) → 21 - v4Z < (nn : Int) → V R_Land b_Land_twitchingRods 6 (some .int) 1 27 (q_Land_twitchingRodsX_0 h c cZ o oZ s sZ) h 6 [some (.ref 1), some (.int c), some (.int o), some (.int s), some (.int v3), some (.int v4)] [] := by
    intro nn
    induction nn with
    | zero => intro v3 v3Z v4 v4Z v3E v4E q5 q6 hm7; exact absurd hm7 (by omega)
    | succ nn ihL1 =>
      intro v3 v3Z v4 v4Z v3E v4E q5 q6 hm7
      refine V_iload d_Land_twitchingRods_6 rfl ?_
      refine V_bipush 21 d_Land_twitchingRods_8 (by decide) ?_
      refine V_icmp_ge 48 v4E tc_21 d_Land_twitchingRods_10 (by decide) (fun c8 => ?_) (fun c8 => ?_)
      ·
        refine V_iload d_Land_twitchingRods_48 rfl ?_
        exact V_iret rfl d_Land_twitchingRods_50 ⟨v3, rfl, ⟨rfl, (by rw [show (21 : Nat) = (v4Z).toNat by omega]; assumption)⟩⟩
      ·
        refine V_aload_n 0 d_Land_twitchingRods_13 rfl rfl ?_
        refine V_iload d_Land_twitchingRods_14 rfl ?_
        refine N_callSI [.int v4] [.ref 1] cs_Land_78 d_Land_twitchingRods_16 rfl (Nat.le_of_ble_eq_true rfl) (by decide) (by decide) (c_Rod_natureOfX h v4 v4Z v4E (by omega)) (fun z9 h10 z9Z z9E p11 => ?_)
        obtain ⟨eh10, p11⟩ := p11
        subst eh10
        refine V_iload d_Land_twitchingRods_19 rfl ?_
        refine N_callSI [.int v4] [.int z9, .ref 1] cs_Land_81 d_Land_twitchingRods_21 rfl (Nat.le_of_ble_eq_true rfl) (by decide) (by decide) (c_Rod_reachOfX h v4 v4Z v4E (by omega)) (fun z12 h13 z12Z z12E p14 => ?_)
        obtain ⟨eh13, p14⟩ := p14
        subst eh13
        refine V_iload_n 1 d_Land_twitchingRods_24 rfl rfl ?_
        refine V_iload_n 2 d_Land_twitchingRods_25 rfl rfl ?_
        refine V_iload_n 3 d_Land_twitchingRods_26 rfl rfl ?_
        refine N_callVI [.int z9, .int z12, .int c, .int o, .int s] [] cv_Land_84 sk_1 rfl d_Land_twitchingRods_27 rfl (Nat.le_of_ble_eq_true rfl) (by decide) (by decide) (c_Land_twitchesX_0 h hI z9 z9Z z9E z12 z12Z z12E c cZ cE o oZ oE s sZ sE (by omega) (by omega) (hy2 _ (by omega))) (fun z15 h16 z15Z z15E p17 => ?_)
        obtain ⟨eh16, p17⟩ := p17
        subst eh16
        have := twR_01 p17
        rw [show z9Z = rN (v4Z).toNat from z9E.symm.trans p11, show z12Z = rR (v4Z).toNat from z12E.symm.trans p14] at p17
        refine V_if_eq 42 z15E d_Land_twitchingRods_30 (by decide) (fun c18 => ?_) (fun c18 => ?_)
        ·
          obtain ⟨z19, z19E, z19e⟩ : ∃ y : Int32, y.toInt = v4Z + 1 ∧ y = v4 + Int32.ofInt 1 := ⟨_, ti_add v4E (by decide) (by omega), rfl⟩
          refine V_iinc 5 [some (.ref 1), some (.int c), some (.int o), some (.int s), some (.int v3), some (.int z19)] d_Land_twitchingRods_42 rfl z19e.symm (by decide) rfl rfl ?_
          refine V_goto 6 d_Land_twitchingRods_45 (by decide) ?_
          exact ihL1 v3 v3Z z19 ((v4Z + 1)) v3E z19E (by omega) (BP_skip (by assumption) (by omega) (p17.resolve_left (fun q => absurd q.1 (by omega))).2) (by omega)
        ·
          refine V_iload d_Land_twitchingRods_33 rfl ?_
          refine V_iconst 1 d_Land_twitchingRods_35 (by decide) ?_
          refine V_iload d_Land_twitchingRods_36 rfl ?_
          refine N_ishl d_Land_twitchingRods_38 (fun z20 z20Z z20E z20e => ?_)
          refine N_ior d_Land_twitchingRods_39 (fun z21 z21Z z21E z21e => ?_)
          refine V_istore 4 [some (.ref 1), some (.int c), some (.int o), some (.int s), some (.int z21), some (.int v4)] d_Land_twitchingRods_40 (by decide) rfl rfl ?_
          obtain ⟨z22, z22E, z22e⟩ : ∃ y : Int32, y.toInt = v4Z + 1 ∧ y = v4 + Int32.ofInt 1 := ⟨_, ti_add v4E (by decide) (by omega), rfl⟩
          refine V_iinc 5 [some (.ref 1), some (.int c), some (.int o), some (.int s), some (.int z21), some (.int z22)] d_Land_twitchingRods_42 rfl z22e.symm (by decide) rfl rfl ?_
          refine V_goto 6 d_Land_twitchingRods_45 (by decide) ?_
          exact ihL1 z21 z21Z z22 ((v4Z + 1)) z21E z22E (by omega) (BP_add (by assumption) v4E (by omega) (p17.resolve_right (fun q => absurd q.1 (by omega))).2 z20e z21e) (by omega)
  exact L1 (Int.toNat ((21 - 0 : Int) + 1)) 0 0 0 0 tc_0 tc_0 (by omega) BP_none (by omega)
abbrev q_County_fittingRodsX_0 (h : Hp) (t : Int32) (tZ : Int) : Option Value → Hp → Prop := pInt (fun r h' => h = h' ∧ (BP r (fun j => j < 21 ∧ ftC h (rN j) (rR j) tZ.toNat)))
set_option maxRecDepth 100000 in
theorem c_County_fittingRodsX_0 (h : Hp) (hI : Inv h) (t : Int32) (tZ : Int) (tE : t.toInt = tZ) (tK : h.1 12 4 = t) (hy0 : ∀ i : Nat, i < 16 → 0 ≤ (h.1 3 i).toInt ∧ (h.1 3 i).toInt ≤ 1) (hy1 : ∀ i : Nat, i < 8 → (i : Int) < (h.1 12 4).toInt → (0 ≤ (h.1 16 i).toInt ∧ (h.1 16 i).toInt ≤ 1) ∧ 0 ≤ (h.1 15 i).toInt) : Ct y_County_fittingRods b_County_fittingRods 4 (some .int) 2 52 [.ref 0] h (q_County_fittingRodsX_0 h t tZ) := by
  refine ct_ow R_County [some (.ref 0), none, none, none] rfl (by decide) rfl (Nat.le_of_ble_eq_true rfl) ?_
  have f0 : fr [] h h := fr_rf
  have g1 : 0 ≤ tZ ∧ tZ ≤ 8 := inv_at hI tE tK.symm rfl
  refine V_ldc d_County_fittingRods_0 wc_County_61 ?_
  refine V_istore_n 1 [some (.ref 0), some (.int 2097151), none, none] d_County_fittingRods_2 rfl (by decide) rfl rfl ?_
  refine V_iconst 0 d_County_fittingRods_3 (by decide) ?_
  refine V_istore_n 2 [some (.ref 0), some (.int 2097151), some (.int 0), none] d_County_fittingRods_4 rfl (by decide) rfl rfl ?_
  have L2 : ∀ (nn : Nat) (v4 : Int32) (v4Z : Int) (v5 : Int32) (v5Z : Int), v4.toInt = v4Z → v5.toInt = v5Z → 0 ≤ v5Z ∧ v5Z ≤ tZ → BP v4 (fun j => j < 21 ∧ ftC h (rN j) (rR j) (v5Z).toNat) → 8 - v5Z < (nn : Int) → V R_County b_County_fittingRods 4 (some .int) 2 52 (q_County_fittingRodsX_0 h t tZ) h 5 [some (.ref 0), some (.int v4), some (.int v5), none] [] := by
    intro nn
    induction nn with
    | zero => intro v4 v4Z v5 v5Z v4E v5E q6 q7 hm8; exact absurd hm8 (by omega)
    | succ nn ihL2 =>
      intro v4 v4Z v5 v5Z v4E v5E q6 q7 hm8
      refine V_iload_n 2 d_County_fittingRods_5 rfl rfl ?_
      refine V_aload_n 0 d_County_fittingRods_6 rfl rfl ?_
      refine V_getR fa_County_28 sk_0 rfl d_County_fittingRods_7 ?_
      refine N_getK fa_County_37 sk_12 rfl d_County_fittingRods_10 tK ?_
      refine V_icmp_ge 79 v5E tE d_County_fittingRods_13 (by decide) (fun c9 => ?_) (fun c9 => ?_)
      ·
        refine V_iload_n 1 d_County_fittingRods_79 rfl rfl ?_
        exact V_iret rfl d_County_fittingRods_80 ⟨v4, rfl, ⟨rfl, (by rw [show tZ.toNat = (v5Z).toNat by omega]; assumption)⟩⟩
      ·
        refine V_aload_n 0 d_County_fittingRods_16 rfl rfl ?_
        refine V_getR fa_County_12 sk_0 rfl d_County_fittingRods_17 ?_
        refine V_aload_n 0 d_County_fittingRods_20 rfl rfl ?_
        refine V_getR fa_County_28 sk_0 rfl d_County_fittingRods_21 ?_
        refine V_getR fa_County_62 sk_12 rfl d_County_fittingRods_24 ?_
        refine V_iload_n 2 d_County_fittingRods_27 rfl rfl ?_
        refine N_iald sk_13 v5E (by omega) d_County_fittingRods_28 (fun z10 z10Z z10E z10e => ?_)
        have g11 : 0 ≤ z10Z ∧ z10Z ≤ 15 := inv_at hI z10E z10e rfl
        refine V_aload_n 0 d_County_fittingRods_29 rfl rfl ?_
        refine V_getR fa_County_28 sk_0 rfl d_County_fittingRods_30 ?_
        refine V_getR fa_County_66 sk_12 rfl d_County_fittingRods_33 ?_
        refine V_iload_n 2 d_County_fittingRods_36 rfl rfl ?_
        refine N_iald sk_14 v5E (by omega) d_County_fittingRods_37 (fun z12 z12Z z12E z12e => ?_)
        refine V_aload_n 0 d_County_fittingRods_38 rfl rfl ?_
        refine V_getR fa_County_28 sk_0 rfl d_County_fittingRods_39 ?_
        refine V_getR fa_County_69 sk_12 rfl d_County_fittingRods_42 ?_
        refine V_iload_n 2 d_County_fittingRods_45 rfl rfl ?_
        refine N_iald sk_15 v5E (by omega) d_County_fittingRods_46 (fun z13 z13Z z13E z13e => ?_)
        have hq9 := hy1 (v5Z).toNat (by omega) (by rw [tK, tE]; omega)
        rw [← z13e, z13E] at hq9
        refine N_callVI [.int z10, .int z12, .int z13] [] cv_County_72 sk_1 rfl d_County_fittingRods_47 rfl (Nat.le_of_ble_eq_true rfl) (by decide) (by decide) (c_Land_twitchingRodsX_0 h hI z10 z10Z z10E z12 z12Z z12E z13 z13Z z13E (by omega) hq9.2 hy0) (fun z14 h15 z14Z z14E p16 => ?_)
        obtain ⟨eh15, p16⟩ := p16
        subst eh15
        refine V_istore_n 3 [some (.ref 0), some (.int v4), some (.int v5), some (.int z14)] d_County_fittingRods_50 rfl (by decide) rfl rfl ?_
        refine V_iload_n 1 d_County_fittingRods_51 rfl rfl ?_
        refine V_aload_n 0 d_County_fittingRods_52 rfl rfl ?_
        refine V_getR fa_County_28 sk_0 rfl d_County_fittingRods_53 ?_
        refine V_getR fa_County_76 sk_12 rfl d_County_fittingRods_56 ?_
        refine V_iload_n 2 d_County_fittingRods_59 rfl rfl ?_
        refine N_iald sk_16 v5E (by omega) d_County_fittingRods_60 (fun z17 z17Z z17E z17e => ?_)
        rw [← z17e, z17E] at hq9
        refine V_if_eq 68 z17E d_County_fittingRods_61 (by decide) (fun c18 => ?_) (fun c18 => ?_)
        ·
          refine V_iload_n 3 d_County_fittingRods_68 rfl rfl ?_
          refine V_iconst (-1) d_County_fittingRods_69 (by decide) ?_
          refine N_ixor d_County_fittingRods_70 (fun z19 z19Z z19E z19e => ?_)
          refine N_iand d_County_fittingRods_71 (fun z20 z20Z z20E z20e => ?_)
          refine V_istore_n 1 [some (.ref 0), some (.int z20), some (.int v5), some (.int z14)] d_County_fittingRods_72 rfl (by decide) rfl rfl ?_
          obtain ⟨z21, z21E, z21e⟩ : ∃ y : Int32, y.toInt = v5Z + 1 ∧ y = v5 + Int32.ofInt 1 := ⟨_, ti_add v5E (by decide) (by omega), rfl⟩
          refine V_iinc 2 [some (.ref 0), some (.int z20), some (.int z21), some (.int z14)] d_County_fittingRods_73 rfl z21e.symm (by decide) rfl rfl ?_
          refine V_goto 5 d_County_fittingRods_76 (by decide) ?_
          refine V_drop 3 [some (.ref 0), some (.int z20), some (.int z21), none] rfl ?_
          exact ihL2 z20 z20Z z21 ((v5Z + 1)) z20E z21E (by omega) (FT_n (by omega) (by assumption) p16 z10e z10E z12e z12E z13e z13E z17e z17E (by omega) z19e z20e) (by omega)
        ·
          refine V_iload_n 3 d_County_fittingRods_64 rfl rfl ?_
          refine V_goto 71 d_County_fittingRods_65 (by decide) ?_
          refine N_iand d_County_fittingRods_71 (fun z22 z22Z z22E z22e => ?_)
          refine V_istore_n 1 [some (.ref 0), some (.int z22), some (.int v5), some (.int z14)] d_County_fittingRods_72 rfl (by decide) rfl rfl ?_
          obtain ⟨z23, z23E, z23e⟩ : ∃ y : Int32, y.toInt = v5Z + 1 ∧ y = v5 + Int32.ofInt 1 := ⟨_, ti_add v5E (by decide) (by omega), rfl⟩
          refine V_iinc 2 [some (.ref 0), some (.int z22), some (.int z23), some (.int z14)] d_County_fittingRods_73 rfl z23e.symm (by decide) rfl rfl ?_
          refine V_goto 5 d_County_fittingRods_76 (by decide) ?_
          refine V_drop 3 [some (.ref 0), some (.int z22), some (.int z23), none] rfl ?_
          exact ihL2 z22 z22Z z23 ((v5Z + 1)) z22E z23E (by omega) (FT_1 (by omega) (by assumption) p16 z10e z10E z12e z12E z13e z13E z17e z17E (by omega) z22e) (by omega)
  exact L2 (Int.toNat ((8 - 0 : Int) + 1)) 2097151 2097151 0 0 tc_2097151 tc_0 (by omega) FT_0 (by omega)
abbrev q_Rod_naturesX (h : Hp) (t : Int32) (tZ : Int) : Option Value → Hp → Prop := pInt (fun r h' => h = h' ∧ (BP r (NQ (fun a b => ftC h a b tZ.toNat) 21)))
set_option maxRecDepth 100000 in
theorem c_Rod_naturesX (h : Hp) (hI : Inv h) (t : Int32) (tZ : Int) (tE : t.toInt = tZ) (tK : h.1 12 4 = t) (hy0 : ∀ i : Nat, i < 16 → 0 ≤ (h.1 3 i).toInt ∧ (h.1 3 i).toInt ≤ 1) (hy1 : ∀ i : Nat, i < 8 → (i : Int) < (h.1 12 4).toInt → (0 ≤ (h.1 16 i).toInt ∧ (h.1 16 i).toInt ≤ 1) ∧ 0 ≤ (h.1 15 i).toInt) : Ct y_Rod_natures b_Rod_natures 4 (some .int) 3 75 [.ref 85] h (q_Rod_naturesX h t tZ) := by
  refine ct_ow R_Rod [some (.ref 85), none, none, none] rfl (by decide) rfl (Nat.le_of_ble_eq_true rfl) ?_
  have f0 : fr [] h h := fr_rf
  have g1 : 0 ≤ tZ ∧ tZ ≤ 8 := inv_at hI tE tK.symm rfl
  refine V_aload_n 0 d_Rod_natures_0 rfl rfl ?_
  refine V_getR fa_Rod_12 sk_85 rfl d_Rod_natures_1 ?_
  refine N_callVI [] [] cv_Rod_189 sk_0 rfl d_Rod_natures_4 rfl (Nat.le_of_ble_eq_true rfl) (by decide) (by decide) (c_County_fittingRodsX_0 h hI t tZ tE tK hy0 hy1) (fun z2 h3 z2Z z2E p4 => ?_)
  obtain ⟨eh3, p4⟩ := p4
  subst eh3
  refine V_istore_n 1 [some (.ref 85), some (.int z2), none, none] d_Rod_natures_7 rfl (by decide) rfl rfl ?_
  refine V_iconst 0 d_Rod_natures_8 (by decide) ?_
  refine V_istore_n 2 [some (.ref 85), some (.int z2), some (.int 0), none] d_Rod_natures_9 rfl (by decide) rfl rfl ?_
  refine V_iconst 0 d_Rod_natures_10 (by decide) ?_
  refine V_istore_n 3 [some (.ref 85), some (.int z2), some (.int 0), some (.int 0)] d_Rod_natures_11 rfl (by decide) rfl rfl ?_
  have L5 : ∀ (nn : Nat) (v7 : Int32) (v7Z : Int) (v8 : Int32) (v8Z : Int), v7.toInt = v7Z → v8.toInt = v8Z → 0 ≤ v8Z ∧ v8Z ≤ 21 → BP v7 (NQ (fun a b => ftC h a b tZ.toNat) (v8Z).toNat) → 21 - v8Z < (nn : Int) → V R_Rod b_Rod_natures 4 (some .int) 3 75 (q_Rod_naturesX h t tZ) h 12 [some (.ref 85), some (.int z2), some (.int v7), some (.int v8)] [] := by
    intro nn
    induction nn with
    | zero => intro v7 v7Z v8 v8Z v7E v8E q9 q10 hm11; exact absurd hm11 (by omega)
    | succ nn ihL5 =>
      intro v7 v7Z v8 v8Z v7E v8E q9 q10 hm11
      refine V_iload_n 3 d_Rod_natures_12 rfl rfl ?_
      refine V_bipush 21 d_Rod_natures_13 (by decide) ?_
      refine V_icmp_ge 41 v8E tc_21 d_Rod_natures_15 (by decide) (fun c12 => ?_) (fun c12 => ?_)
      ·
        refine V_iload_n 2 d_Rod_natures_41 rfl rfl ?_
        exact V_iret rfl d_Rod_natures_42 ⟨v7, rfl, ⟨rfl, (by rw [show (21 : Nat) = (v8Z).toNat by omega]; assumption)⟩⟩
      ·
        refine V_iload_n 1 d_Rod_natures_18 rfl rfl ?_
        refine V_iload_n 3 d_Rod_natures_19 rfl rfl ?_
        refine N_ishr d_Rod_natures_20 (fun z13 z13Z z13E z13e => ?_)
        refine V_iconst 1 d_Rod_natures_21 (by decide) ?_
        refine N_iand d_Rod_natures_22 (fun z14 z14Z z14E z14e => ?_)
        have hbit := BP_sh p4 v8E (by omega) z13e z14e z14E
        refine V_if_eq 35 z14E d_Rod_natures_23 (by decide) (fun c15 => ?_) (fun c15 => ?_)
        ·
          obtain ⟨z16, z16E, z16e⟩ : ∃ y : Int32, y.toInt = v8Z + 1 ∧ y = v8 + Int32.ofInt 1 := ⟨_, ti_add v8E (by decide) (by omega), rfl⟩
          refine V_iinc 3 [some (.ref 85), some (.int z2), some (.int v7), some (.int z16)] d_Rod_natures_35 rfl z16e.symm (by decide) rfl rfl ?_
          refine V_goto 12 d_Rod_natures_38 (by decide) ?_
          exact ihL5 v7 v7Z z16 ((v8Z + 1)) v7E z16E (by omega) (NQ_n (F := (fun a b => ftC h a b tZ.toNat)) (by assumption) (by omega) (fun q => (hbit.resolve_left (fun w => absurd w.1 (by omega))).2 ⟨by omega, q⟩)) (by omega)
        ·
          refine V_iload_n 2 d_Rod_natures_26 rfl rfl ?_
          refine V_iconst 1 d_Rod_natures_27 (by decide) ?_
          refine V_iload_n 3 d_Rod_natures_28 rfl rfl ?_
          refine N_callSI [.int v8] [.int 1, .int v7] cs_Rod_192 d_Rod_natures_29 rfl (Nat.le_of_ble_eq_true rfl) (by decide) (by decide) (c_Rod_natureOfX h v8 v8Z v8E (by omega)) (fun z17 h18 z17Z z17E p19 => ?_)
          obtain ⟨eh18, p19⟩ := p19
          subst eh18
          refine N_ishl d_Rod_natures_32 (fun z20 z20Z z20E z20e => ?_)
          refine N_ior d_Rod_natures_33 (fun z21 z21Z z21E z21e => ?_)
          refine V_istore_n 2 [some (.ref 85), some (.int z2), some (.int z21), some (.int v8)] d_Rod_natures_34 rfl (by decide) rfl rfl ?_
          obtain ⟨z22, z22E, z22e⟩ : ∃ y : Int32, y.toInt = v8Z + 1 ∧ y = v8 + Int32.ofInt 1 := ⟨_, ti_add v8E (by decide) (by omega), rfl⟩
          refine V_iinc 3 [some (.ref 85), some (.int z2), some (.int z21), some (.int z22)] d_Rod_natures_35 rfl z22e.symm (by decide) rfl rfl ?_
          refine V_goto 12 d_Rod_natures_38 (by decide) ?_
          exact ihL5 z21 z21Z z22 ((v8Z + 1)) z21E z22E (by omega) (NQ_1 (F := (fun a b => ftC h a b tZ.toNat)) (by assumption) (by omega) (hbit.resolve_right (fun q => absurd q.1 (by omega))).2.2 p19 z20e z21e) (by omega)
  exact L5 (Int.toNat ((21 - 0 : Int) + 1)) 0 0 0 0 tc_0 tc_0 (by omega) NQ_0 (by omega)
abbrev q_Rod_reachesX (h : Hp) (n : Int32) (nZ : Int) (t : Int32) (tZ : Int) : Option Value → Hp → Prop := pInt (fun r h' => h = h' ∧ ((0 ≤ nZ ∧ nZ ≤ 4) ∧ BP r (RQ (fun a b => ftC h a b tZ.toNat) nZ 21) ∨ ¬ (0 ≤ nZ ∧ nZ ≤ 4) ∧ r.toInt = -1))
set_option maxRecDepth 100000 in
theorem c_Rod_reachesX (h : Hp) (hI : Inv h) (n : Int32) (nZ : Int) (nE : n.toInt = nZ) (t : Int32) (tZ : Int) (tE : t.toInt = tZ) (tK : h.1 12 4 = t) (hy0 : ∀ i : Nat, i < 16 → 0 ≤ (h.1 3 i).toInt ∧ (h.1 3 i).toInt ≤ 1) (hy1 : ∀ i : Nat, i < 8 → (i : Int) < (h.1 12 4).toInt → (0 ≤ (h.1 16 i).toInt ∧ (h.1 16 i).toInt ≤ 1) ∧ 0 ≤ (h.1 15 i).toInt) : Ct y_Rod_reaches b_Rod_reaches 5 (some .int) 3 75 [.ref 85, .int n] h (q_Rod_reachesX h n nZ t tZ) := by
  refine ct_ow R_Rod [some (.ref 85), some (.int n), none, none, none] rfl (by decide) rfl (Nat.le_of_ble_eq_true rfl) ?_
  have f0 : fr [] h h := fr_rf
  have g1 : 0 ≤ tZ ∧ tZ ≤ 8 := inv_at hI tE tK.symm rfl
  refine V_iload_n 1 d_Rod_reaches_0 rfl rfl ?_
  refine N_callSI [.int n] [] cs_Rod_157 d_Rod_reaches_1 rfl (Nat.le_of_ble_eq_true rfl) (by decide) (by decide) (c_Rod_isNature h n nZ nE) (fun z2 h3 z2Z z2E p4 => ?_)
  obtain ⟨eh3, p4⟩ := p4
  subst eh3
  refine V_if_ne 9 z2E d_Rod_reaches_4 (by decide) (fun c5 => ?_) (fun c5 => ?_)
  ·
    refine V_aload_n 0 d_Rod_reaches_9 rfl rfl ?_
    refine V_getR fa_Rod_12 sk_85 rfl d_Rod_reaches_10 ?_
    refine N_callVI [] [] cv_Rod_189 sk_0 rfl d_Rod_reaches_13 rfl (Nat.le_of_ble_eq_true rfl) (by decide) (by decide) (c_County_fittingRodsX_0 h hI t tZ tE tK hy0 hy1) (fun z6 h7 z6Z z6E p8 => ?_)
    obtain ⟨eh7, p8⟩ := p8
    subst eh7
    refine V_istore_n 2 [some (.ref 85), some (.int n), some (.int z6), none, none] d_Rod_reaches_16 rfl (by decide) rfl rfl ?_
    refine V_iconst 0 d_Rod_reaches_17 (by decide) ?_
    refine V_istore_n 3 [some (.ref 85), some (.int n), some (.int z6), some (.int 0), none] d_Rod_reaches_18 rfl (by decide) rfl rfl ?_
    refine V_iconst 0 d_Rod_reaches_19 (by decide) ?_
    refine V_istore 4 [some (.ref 85), some (.int n), some (.int z6), some (.int 0), some (.int 0)] d_Rod_reaches_20 (by decide) rfl rfl ?_
    have L9 : ∀ (nn : Nat) (v11 : Int32) (v11Z : Int) (v12 : Int32) (v12Z : Int), v11.toInt = v11Z → v12.toInt = v12Z → 0 ≤ v12Z ∧ v12Z ≤ 21 → BP v11 (RQ (fun a b => ftC h a b tZ.toNat) nZ (v12Z).toNat) → 21 - v12Z < (nn : Int) → V R_Rod b_Rod_reaches 5 (some .int) 3 75 (q_Rod_reachesX h n nZ t tZ) h 22 [some (.ref 85), some (.int n), some (.int z6), some (.int v11), some (.int v12)] [] := by
      intro nn
      induction nn with
      | zero => intro v11 v11Z v12 v12Z v11E v12E q13 q14 hm15; exact absurd hm15 (by omega)
      | succ nn ihL9 =>
        intro v11 v11Z v12 v12Z v11E v12E q13 q14 hm15
        refine V_iload d_Rod_reaches_22 rfl ?_
        refine V_bipush 21 d_Rod_reaches_24 (by decide) ?_
        refine V_icmp_ge 61 v12E tc_21 d_Rod_reaches_26 (by decide) (fun c16 => ?_) (fun c16 => ?_)
        ·
          refine V_iload_n 3 d_Rod_reaches_61 rfl rfl ?_
          exact V_iret rfl d_Rod_reaches_62 ⟨v11, rfl, ⟨rfl, (Or.inl ⟨by omega, by rw [show (21 : Nat) = (v12Z).toNat by omega]; assumption⟩)⟩⟩
        ·
          refine V_iload_n 2 d_Rod_reaches_29 rfl rfl ?_
          refine V_iload d_Rod_reaches_30 rfl ?_
          refine N_ishr d_Rod_reaches_32 (fun z17 z17Z z17E z17e => ?_)
          refine V_iconst 1 d_Rod_reaches_33 (by decide) ?_
          refine N_iand d_Rod_reaches_34 (fun z18 z18Z z18E z18e => ?_)
          have hbit := BP_sh p8 v12E (by omega) z17e z18e z18E
          refine V_if_eq 55 z18E d_Rod_reaches_35 (by decide) (fun c19 => ?_) (fun c19 => ?_)
          ·
            obtain ⟨z20, z20E, z20e⟩ : ∃ y : Int32, y.toInt = v12Z + 1 ∧ y = v12 + Int32.ofInt 1 := ⟨_, ti_add v12E (by decide) (by omega), rfl⟩
            refine V_iinc 4 [some (.ref 85), some (.int n), some (.int z6), some (.int v11), some (.int z20)] d_Rod_reaches_55 rfl z20e.symm (by decide) rfl rfl ?_
            refine V_goto 22 d_Rod_reaches_58 (by decide) ?_
            exact ihL9 v11 v11Z z20 ((v12Z + 1)) v11E z20E (by omega) (RQ_n (F := (fun a b => ftC h a b tZ.toNat)) (by assumption) (by omega) (fun q => (hbit.resolve_left (fun w => absurd w.1 (by omega))).2 ⟨by omega, q.1⟩)) (by omega)
          ·
            refine V_iload d_Rod_reaches_38 rfl ?_
            refine N_callSI [.int v12] [] cs_Rod_192 d_Rod_reaches_40 rfl (Nat.le_of_ble_eq_true rfl) (by decide) (by decide) (c_Rod_natureOfX h v12 v12Z v12E (by omega)) (fun z21 h22 z21Z z21E p23 => ?_)
            obtain ⟨eh22, p23⟩ := p23
            subst eh22
            rw [z21E] at p23
            refine V_iload_n 1 d_Rod_reaches_43 rfl rfl ?_
            refine V_icmp_ne 55 z21E nE d_Rod_reaches_44 (by decide) (fun c24 => ?_) (fun c24 => ?_)
            ·
              obtain ⟨z25, z25E, z25e⟩ : ∃ y : Int32, y.toInt = v12Z + 1 ∧ y = v12 + Int32.ofInt 1 := ⟨_, ti_add v12E (by decide) (by omega), rfl⟩
              refine V_iinc 4 [some (.ref 85), some (.int n), some (.int z6), some (.int v11), some (.int z25)] d_Rod_reaches_55 rfl z25e.symm (by decide) rfl rfl ?_
              refine V_goto 22 d_Rod_reaches_58 (by decide) ?_
              exact ihL9 v11 v11Z z25 ((v12Z + 1)) v11E z25E (by omega) (RQ_n (F := (fun a b => ftC h a b tZ.toNat)) (by assumption) (by omega) (fun q => by have := q.2; omega)) (by omega)
            ·
              refine V_iload_n 3 d_Rod_reaches_47 rfl rfl ?_
              refine V_iload d_Rod_reaches_48 rfl ?_
              refine N_callSI [.int v12] [.int v11] cs_Rod_196 d_Rod_reaches_50 rfl (Nat.le_of_ble_eq_true rfl) (by decide) (by decide) (c_Rod_reachBitsX h v12 v12Z v12E (by omega)) (fun z26 h27 z26Z z26E p28 => ?_)
              obtain ⟨eh27, p28⟩ := p28
              subst eh27
              refine N_ior d_Rod_reaches_53 (fun z29 z29Z z29E z29e => ?_)
              refine V_istore_n 3 [some (.ref 85), some (.int n), some (.int z6), some (.int z29), some (.int v12)] d_Rod_reaches_54 rfl (by decide) rfl rfl ?_
              obtain ⟨z30, z30E, z30e⟩ : ∃ y : Int32, y.toInt = v12Z + 1 ∧ y = v12 + Int32.ofInt 1 := ⟨_, ti_add v12E (by decide) (by omega), rfl⟩
              refine V_iinc 4 [some (.ref 85), some (.int n), some (.int z6), some (.int z29), some (.int z30)] d_Rod_reaches_55 rfl z30e.symm (by decide) rfl rfl ?_
              refine V_goto 22 d_Rod_reaches_58 (by decide) ?_
              exact ihL9 z29 z29Z z30 ((v12Z + 1)) z29E z30E (by omega) (RQ_1 (F := (fun a b => ftC h a b tZ.toNat)) (by assumption) (by omega) (hbit.resolve_right (fun q => absurd q.1 (by omega))).2.2 (by omega) p28 z29e) (by omega)
    exact L9 (Int.toNat ((21 - 0 : Int) + 1)) 0 0 0 0 tc_0 tc_0 (by omega) RQ_0 (by omega)
  ·
    refine V_iconst (-1) d_Rod_reaches_7 (by decide) ?_
    exact V_iret rfl d_Rod_reaches_8 ⟨(-1), rfl, ⟨rfl, (Or.inr ⟨by omega, tc_m1⟩)⟩⟩
abbrev q_Mod_doesFitX (h : Hp) (n : Int32) (nZ : Int) (m : Int32) (mZ : Int) (t : Int32) (tZ : Int) : Option Value → Hp → Prop := pInt (fun r h' => h = h' ∧ (twR r (ftM h nZ mZ tZ.toNat)))
set_option maxRecDepth 100000 in
theorem c_Mod_doesFitX (h : Hp) (hI : Inv h) (n : Int32) (nZ : Int) (nE : n.toInt = nZ) (m : Int32) (mZ : Int) (mE : m.toInt = mZ) (t : Int32) (tZ : Int) (tE : t.toInt = tZ) (tK : h.1 117 111 = t) (hy0 : ∀ i : Nat, i < 8 → (i : Int) < (h.1 117 111).toInt → (0 ≤ (h.1 117 (115 + 4 * i)).toInt ∧ (h.1 117 (115 + 4 * i)).toInt ≤ 1) ∧ 0 ≤ (h.1 117 (114 + 4 * i)).toInt) : Ct y_Mod_doesFit b_Mod_doesFit 6 (some .boolean) 1 27 [.ref 116, .int n, .int m] h (q_Mod_doesFitX h n nZ m mZ t tZ) := by
  refine ct_ow R_Mod [some (.ref 116), some (.int n), some (.int m), none, none, none] rfl (by decide) rfl (Nat.le_of_ble_eq_true rfl) ?_
  have f0 : fr [] h h := fr_rf
  have tB : 0 ≤ tZ ∧ tZ ≤ 8 := inv_at hI tE tK.symm rfl
  refine V_iconst 1 d_Mod_doesFit_0 (by decide) ?_
  refine V_istore_n 3 [some (.ref 116), some (.int n), some (.int m), some (.int 1), none, none] d_Mod_doesFit_1 rfl (by decide) rfl rfl ?_
  refine V_iconst 0 d_Mod_doesFit_2 (by decide) ?_
  refine V_istore 4 [some (.ref 116), some (.int n), some (.int m), some (.int 1), some (.int 0), none] d_Mod_doesFit_3 (by decide) rfl rfl ?_
  have L1 : ∀ (nn : Nat) (v3 : Int32) (v3Z : Int) (v4 : Int32) (v4Z : Int), v3.toInt = v3Z → v4.toInt = v4Z → 0 ≤ v4Z ∧ v4Z ≤ tZ → twR v3 (ftM h nZ mZ (v4Z).toNat) → 0 ≤ v3Z ∧ v3Z ≤ 1 → 8 - v4Z < (nn : Int) → V R_Mod b_Mod_doesFit 6 (some .boolean) 1 27 (q_Mod_doesFitX h n nZ m mZ t tZ) h 5 [some (.ref 116), some (.int n), some (.int m), some (.int v3), some (.int v4), none] [] := by
    intro nn
    induction nn with
    | zero => intro v3 v3Z v4 v4Z v3E v4E q5 q6 q7 hm8; exact absurd hm8 (by omega)
    | succ nn ihL1 =>
      intro v3 v3Z v4 v4Z v3E v4E q5 q6 q7 hm8
      refine V_iload d_Mod_doesFit_5 rfl ?_
      refine V_aload_n 0 d_Mod_doesFit_7 rfl rfl ?_
      refine V_getR fa_Mod_7 sk_116 rfl d_Mod_doesFit_8 ?_
      refine V_bipush 111 d_Mod_doesFit_11 (by decide) ?_
      refine N_ialdK sk_117 tc_111 (by omega) d_Mod_doesFit_13 tK ?_
      refine V_icmp_ge 88 v4E tE d_Mod_doesFit_14 (by decide) (fun c10 => ?_) (fun c10 => ?_)
      ·
        refine V_iload_n 3 d_Mod_doesFit_88 rfl rfl ?_
        exact V_zret rfl (by rw [v3E]; omega) d_Mod_doesFit_89 ⟨v3, rfl, ⟨rfl, (by rw [show tZ.toNat = (v4Z).toNat by omega]; assumption)⟩⟩
      ·
        refine V_bipush 112 d_Mod_doesFit_17 (by decide) ?_
        refine V_iconst 4 d_Mod_doesFit_19 (by decide) ?_
        refine V_iload d_Mod_doesFit_20 rfl ?_
        refine V_imul tc_4 v4E (by omega) d_Mod_doesFit_22 (fun z11 z11e z11E => ?_)
        refine V_iadd tc_112 z11E (by omega) d_Mod_doesFit_23 (fun z12 z12e z12E => ?_)
        refine V_istore 5 [some (.ref 116), some (.int n), some (.int m), some (.int v3), some (.int v4), some (.int z12)] d_Mod_doesFit_24 (by decide) rfl rfl ?_
        have hq9 := hy0 (v4Z).toNat (by omega) (by rw [tK, tE]; omega)
        refine V_iload_n 3 d_Mod_doesFit_26 rfl rfl ?_
        refine V_if_eq 80 v3E d_Mod_doesFit_27 (by decide) (fun c13 => ?_) (fun c13 => ?_)
        ·
          refine V_iconst 0 d_Mod_doesFit_80 (by decide) ?_
          refine V_istore_n 3 [some (.ref 116), some (.int n), some (.int m), some (.int 0), some (.int v4), some (.int z12)] d_Mod_doesFit_81 rfl (by decide) rfl rfl ?_
          obtain ⟨z14, z14E, z14e⟩ : ∃ y : Int32, y.toInt = v4Z + 1 ∧ y = v4 + Int32.ofInt 1 := ⟨_, ti_add v4E (by decide) (by omega), rfl⟩
          refine V_iinc 4 [some (.ref 116), some (.int n), some (.int m), some (.int 0), some (.int z14), some (.int z12)] d_Mod_doesFit_82 rfl z14e.symm (by decide) rfl rfl ?_
          refine V_goto 5 d_Mod_doesFit_85 (by decide) ?_
          refine V_drop 5 [some (.ref 116), some (.int n), some (.int m), some (.int 0), some (.int z14), none] rfl ?_
          exact ihL1 0 0 z14 ((v4Z + 1)) tc_0 z14E (by omega) (FM_n (by omega) (by assumption) v3E (by omega)) (by omega) (by omega)
        ·
          refine V_aload_n 0 d_Mod_doesFit_30 rfl rfl ?_
          refine V_iload_n 1 d_Mod_doesFit_31 rfl rfl ?_
          refine V_iload_n 2 d_Mod_doesFit_32 rfl rfl ?_
          refine V_aload_n 0 d_Mod_doesFit_33 rfl rfl ?_
          refine V_getR fa_Mod_7 sk_116 rfl d_Mod_doesFit_34 ?_
          refine V_iload d_Mod_doesFit_37 rfl ?_
          refine N_iald sk_117 z12E (by omega) d_Mod_doesFit_39 (fun z15 z15Z z15E z15e => ?_)
          have g16 : 0 ≤ z15Z ∧ z15Z ≤ 15 := inv_at hI z15E z15e (st_c (by omega))
          refine V_aload_n 0 d_Mod_doesFit_40 rfl rfl ?_
          refine V_getR fa_Mod_7 sk_116 rfl d_Mod_doesFit_41 ?_
          refine V_iload d_Mod_doesFit_44 rfl ?_
          refine V_iconst 1 d_Mod_doesFit_46 (by decide) ?_
          refine V_iadd z12E tc_1 (by omega) d_Mod_doesFit_47 (fun z17 z17e z17E => ?_)
          refine N_iald sk_117 z17E (by omega) d_Mod_doesFit_48 (fun z18 z18Z z18E z18e => ?_)
          refine V_aload_n 0 d_Mod_doesFit_49 rfl rfl ?_
          refine V_getR fa_Mod_7 sk_116 rfl d_Mod_doesFit_50 ?_
          refine V_iload d_Mod_doesFit_53 rfl ?_
          refine V_iconst 2 d_Mod_doesFit_55 (by decide) ?_
          refine V_iadd z12E tc_2 (by omega) d_Mod_doesFit_56 (fun z19 z19e z19E => ?_)
          refine N_iald sk_117 z19E (by omega) d_Mod_doesFit_57 (fun z20 z20Z z20E z20e => ?_)
          rw [show 114 + 4 * (v4Z).toNat = (112 + 4 * v4Z + 2).toNat by omega, ← z20e, z20E] at hq9
          refine N_callVI [.int n, .int m, .int z15, .int z18, .int z20] [] cv_Mod_229 sk_116 rfl d_Mod_doesFit_58 rfl (Nat.le_of_ble_eq_true rfl) (by decide) (by decide) (c_Mod_doesTwitchX h hI n nZ nE m mZ mE z15 z15Z z15E z18 z18Z z18E z20 z20Z z20E (by omega) hq9.2) (fun z21 h22 z21Z z21E p23 => ?_)
          obtain ⟨eh22, p23⟩ := p23
          subst eh22
          have := twR_01 p23
          refine N_callSI [.int z21] [] cs_Mod_196 d_Mod_doesFit_61 rfl (Nat.le_of_ble_eq_true rfl) (by decide) (by decide) (c_Mod_flag h z21 z21Z z21E) (fun z24 h25 z24Z z24E p26 => ?_)
          obtain ⟨eh25, p26⟩ := p26
          subst eh25
          refine V_aload_n 0 d_Mod_doesFit_64 rfl rfl ?_
          refine V_getR fa_Mod_7 sk_116 rfl d_Mod_doesFit_65 ?_
          refine V_iload d_Mod_doesFit_68 rfl ?_
          refine V_iconst 3 d_Mod_doesFit_70 (by decide) ?_
          refine V_iadd z12E tc_3 (by omega) d_Mod_doesFit_71 (fun z27 z27e z27E => ?_)
          refine N_iald sk_117 z27E (by omega) d_Mod_doesFit_72 (fun z28 z28Z z28E z28e => ?_)
          rw [show 115 + 4 * (v4Z).toNat = (112 + 4 * v4Z + 3).toNat by omega, ← z28e, z28E] at hq9
          refine V_icmp_ne 80 z24E z28E d_Mod_doesFit_73 (by decide) (fun c29 => ?_) (fun c29 => ?_)
          ·
            refine V_iconst 0 d_Mod_doesFit_80 (by decide) ?_
            refine V_istore_n 3 [some (.ref 116), some (.int n), some (.int m), some (.int 0), some (.int v4), some (.int z12)] d_Mod_doesFit_81 rfl (by decide) rfl rfl ?_
            obtain ⟨z30, z30E, z30e⟩ : ∃ y : Int32, y.toInt = v4Z + 1 ∧ y = v4 + Int32.ofInt 1 := ⟨_, ti_add v4E (by decide) (by omega), rfl⟩
            refine V_iinc 4 [some (.ref 116), some (.int n), some (.int m), some (.int 0), some (.int z30), some (.int z12)] d_Mod_doesFit_82 rfl z30e.symm (by decide) rfl rfl ?_
            refine V_goto 5 d_Mod_doesFit_85 (by decide) ?_
            refine V_drop 5 [some (.ref 116), some (.int n), some (.int m), some (.int 0), some (.int z30), none] rfl ?_
            exact ihL1 0 0 z30 ((v4Z + 1)) tc_0 z30E (by omega) (FM_s (by omega) (by assumption) v3E (by omega) p23 z21E p26 z15e z15E z18e z18E z20e z20E z28e z28E hq9.1 z24E tc_0 (by omega)) (by omega) (by omega)
          ·
            refine V_iconst 1 d_Mod_doesFit_76 (by decide) ?_
            refine V_goto 81 d_Mod_doesFit_77 (by decide) ?_
            refine V_istore_n 3 [some (.ref 116), some (.int n), some (.int m), some (.int 1), some (.int v4), some (.int z12)] d_Mod_doesFit_81 rfl (by decide) rfl rfl ?_
            obtain ⟨z31, z31E, z31e⟩ : ∃ y : Int32, y.toInt = v4Z + 1 ∧ y = v4 + Int32.ofInt 1 := ⟨_, ti_add v4E (by decide) (by omega), rfl⟩
            refine V_iinc 4 [some (.ref 116), some (.int n), some (.int m), some (.int 1), some (.int z31), some (.int z12)] d_Mod_doesFit_82 rfl z31e.symm (by decide) rfl rfl ?_
            refine V_goto 5 d_Mod_doesFit_85 (by decide) ?_
            refine V_drop 5 [some (.ref 116), some (.int n), some (.int m), some (.int 1), some (.int z31), none] rfl ?_
            exact ihL1 1 1 z31 ((v4Z + 1)) tc_1 z31E (by omega) (FM_s (by omega) (by assumption) v3E (by omega) p23 z21E p26 z15e z15E z18e z18E z20e z20E z28e z28E hq9.1 z24E tc_1 (by omega)) (by omega) (by omega)
  exact L1 (Int.toNat ((8 - 0 : Int) + 1)) 1 1 0 0 tc_1 tc_0 (by omega) FM_0 (by omega) (by omega)
abbrev q_Mod_reachesOfX (h : Hp) (n : Int32) (nZ : Int) : Option Value → Hp → Prop := pInt (fun r h' => h = h' ∧ (r.toInt = rO nZ))
set_option maxRecDepth 100000 in
theorem c_Mod_reachesOfX (h : Hp) (n : Int32) (nZ : Int) (nE : n.toInt = nZ) : Ct y_Mod_reachesOf b_Mod_reachesOf 1 (some .int) 0 0 [.int n] h (q_Mod_reachesOfX h n nZ) := by
  refine ct_ow R_Mod [some (.int n)] rfl (by decide) rfl (Nat.le_of_ble_eq_true rfl) ?_
  have f0 : fr [] h h := fr_rf
  refine V_iload_n 0 d_Mod_reachesOf_0 rfl rfl ?_
  refine V_if_eq 9 nE d_Mod_reachesOf_1 (by decide) (fun c1 => ?_) (fun c1 => ?_)
  ·
    refine V_bipush 9 d_Mod_reachesOf_9 (by decide) ?_
    refine V_goto 15 d_Mod_reachesOf_11 (by decide) ?_
    exact V_iret rfl d_Mod_reachesOf_15 ⟨9, rfl, ⟨rfl, (by rw [show Int32.toInt 9 = 9 from rfl]; unfold rO; rw [if_pos (by omega)])⟩⟩
  ·
    refine V_iload_n 0 d_Mod_reachesOf_4 rfl rfl ?_
    refine V_iconst 4 d_Mod_reachesOf_5 (by decide) ?_
    refine V_icmp_ne 14 nE tc_4 d_Mod_reachesOf_6 (by decide) (fun c2 => ?_) (fun c2 => ?_)
    ·
      refine V_iconst 1 d_Mod_reachesOf_14 (by decide) ?_
      exact V_iret rfl d_Mod_reachesOf_15 ⟨1, rfl, ⟨rfl, (by rw [show Int32.toInt 1 = 1 from rfl]; unfold rO; rw [if_neg (by omega)])⟩⟩
    ·
      refine V_bipush 9 d_Mod_reachesOf_9 (by decide) ?_
      refine V_goto 15 d_Mod_reachesOf_11 (by decide) ?_
      exact V_iret rfl d_Mod_reachesOf_15 ⟨9, rfl, ⟨rfl, (by rw [show Int32.toInt 9 = 9 from rfl]; unfold rO; rw [if_pos (by omega)])⟩⟩
abbrev q_Mod_naturesX (h : Hp) (t : Int32) (tZ : Int) : Option Value → Hp → Prop := pInt (fun r h' => h = h' ∧ (BP r (MQ2 (fun a b => ftM h a b tZ.toNat) 5 1)))
set_option maxRecDepth 100000 in
theorem c_Mod_naturesX (h : Hp) (hI : Inv h) (t : Int32) (tZ : Int) (tE : t.toInt = tZ) (tK : h.1 117 111 = t) (hy0 : ∀ i : Nat, i < 8 → (i : Int) < (h.1 117 111).toInt → (0 ≤ (h.1 117 (115 + 4 * i)).toInt ∧ (h.1 117 (115 + 4 * i)).toInt ≤ 1) ∧ 0 ≤ (h.1 117 (114 + 4 * i)).toInt) : Ct y_Mod_natures b_Mod_natures 4 (some .int) 2 52 [.ref 116] h (q_Mod_naturesX h t tZ) := by
  refine ct_ow R_Mod [some (.ref 116), none, none, none] rfl (by decide) rfl (Nat.le_of_ble_eq_true rfl) ?_
  have f0 : fr [] h h := fr_rf
  refine V_iconst 0 d_Mod_natures_0 (by decide) ?_
  refine V_istore_n 1 [some (.ref 116), some (.int 0), none, none] d_Mod_natures_1 rfl (by decide) rfl rfl ?_
  refine V_iconst 0 d_Mod_natures_2 (by decide) ?_
  refine V_istore_n 2 [some (.ref 116), some (.int 0), some (.int 0), none] d_Mod_natures_3 rfl (by decide) rfl rfl ?_
  have L1 : ∀ (nn : Nat) (v3 : Int32) (v3Z : Int) (v4 : Int32) (v4Z : Int), v3.toInt = v3Z → v4.toInt = v4Z → 0 ≤ v4Z ∧ v4Z ≤ 5 → BP v3 (MQ2 (fun a b => ftM h a b tZ.toNat) v4Z 1) → 5 - v4Z < (nn : Int) → V R_Mod b_Mod_natures 4 (some .int) 2 52 (q_Mod_naturesX h t tZ) h 4 [some (.ref 116), some (.int v3), some (.int v4), none] [] := by
    intro nn
    induction nn with
    | zero => intro v3 v3Z v4 v4Z v3E v4E q5 q6 hm7; exact absurd hm7 (by omega)
    | succ nn ihL1 =>
      intro v3 v3Z v4 v4Z v3E v4E q5 q6 hm7
      refine V_iload_n 2 d_Mod_natures_4 rfl rfl ?_
      refine V_iconst 4 d_Mod_natures_5 (by decide) ?_
      refine V_icmp_gt 45 v4E tc_4 d_Mod_natures_6 (by decide) (fun c8 => ?_) (fun c8 => ?_)
      ·
        refine V_iload_n 1 d_Mod_natures_45 rfl rfl ?_
        exact V_iret rfl d_Mod_natures_46 ⟨v3, rfl, ⟨rfl, (by rw [show (5 : Int) = v4Z by omega]; assumption)⟩⟩
      ·
        refine V_iconst 1 d_Mod_natures_9 (by decide) ?_
        refine V_istore_n 3 [some (.ref 116), some (.int v3), some (.int v4), some (.int 1)] d_Mod_natures_10 rfl (by decide) rfl rfl ?_
        have L9 : ∀ (nn : Nat) (v11 : Int32) (v11Z : Int) (v12 : Int32) (v12Z : Int), v11.toInt = v11Z → v12.toInt = v12Z → 1 ≤ v12Z ∧ v12Z ≤ 10 → BP v11 (MQ2 (fun a b => ftM h a b tZ.toNat) v4Z v12Z) → v12Z ≤ rO v4Z + 1 → 10 - v12Z < (nn : Int) → V R_Mod b_Mod_natures 4 (some .int) 2 52 (q_Mod_naturesX h t tZ) h 11 [some (.ref 116), some (.int v11), some (.int v4), some (.int v12)] [] := by
          intro nn
          induction nn with
          | zero => intro v11 v11Z v12 v12Z v11E v12E q13 q14 q15 hm16; exact absurd hm16 (by omega)
          | succ nn ihL9 =>
            intro v11 v11Z v12 v12Z v11E v12E q13 q14 q15 hm16
            refine V_iload_n 3 d_Mod_natures_11 rfl rfl ?_
            refine V_iload_n 2 d_Mod_natures_12 rfl rfl ?_
            refine N_callSI [.int v4] [.int v12] cs_Mod_233 d_Mod_natures_13 rfl (Nat.le_of_ble_eq_true rfl) (by decide) (by decide) (c_Mod_reachesOfX h v4 v4Z v4E) (fun z17 h18 z17Z z17E p19 => ?_)
            obtain ⟨eh18, p19⟩ := p19
            subst eh18
            have hro : z17Z = rO v4Z := z17E.symm.trans p19
            have hr2 : 1 ≤ rO v4Z ∧ rO v4Z ≤ 9 := by unfold rO; split <;> omega
            refine V_icmp_gt 39 v12E z17E d_Mod_natures_16 (by decide) (fun c20 => ?_) (fun c20 => ?_)
            ·
              obtain ⟨z21, z21E, z21e⟩ : ∃ y : Int32, y.toInt = v4Z + 1 ∧ y = v4 + Int32.ofInt 1 := ⟨_, ti_add v4E (by decide) (by omega), rfl⟩
              refine V_iinc 2 [some (.ref 116), some (.int v11), some (.int z21), some (.int v12)] d_Mod_natures_39 rfl z21e.symm (by decide) rfl rfl ?_
              refine V_goto 4 d_Mod_natures_42 (by decide) ?_
              refine V_drop 3 [some (.ref 116), some (.int v11), some (.int z21), none] rfl ?_
              exact ihL1 v11 v11Z z21 ((v4Z + 1)) v11E z21E (by omega) (MQ2_k (F := (fun a b => ftM h a b tZ.toNat)) (by assumption) (by omega) (by omega) (by omega)) (by omega)
            ·
              refine V_iload_n 1 d_Mod_natures_19 rfl rfl ?_
              refine V_aload_n 0 d_Mod_natures_20 rfl rfl ?_
              refine V_iload_n 2 d_Mod_natures_21 rfl rfl ?_
              refine V_iload_n 3 d_Mod_natures_22 rfl rfl ?_
              refine N_callVI [.int v4, .int v12] [.int v11] cv_Mod_236 sk_116 rfl d_Mod_natures_23 rfl (Nat.le_of_ble_eq_true rfl) (by decide) (by decide) (c_Mod_doesFitX h hI v4 v4Z v4E v12 v12Z v12E t tZ tE tK hy0) (fun z22 h23 z22Z z22E p24 => ?_)
              obtain ⟨eh23, p24⟩ := p24
              subst eh23
              have := twR_01 p24
              refine N_callSI [.int z22] [.int v11] cs_Mod_196 d_Mod_natures_26 rfl (Nat.le_of_ble_eq_true rfl) (by decide) (by decide) (c_Mod_flag h z22 z22Z z22E) (fun z25 h26 z25Z z25E p27 => ?_)
              obtain ⟨eh26, p27⟩ := p27
              subst eh26
              refine V_iload_n 2 d_Mod_natures_29 rfl rfl ?_
              refine N_ishl d_Mod_natures_30 (fun z28 z28Z z28E z28e => ?_)
              refine N_ior d_Mod_natures_31 (fun z29 z29Z z29E z29e => ?_)
              refine V_istore_n 1 [some (.ref 116), some (.int z29), some (.int v4), some (.int v12)] d_Mod_natures_32 rfl (by decide) rfl rfl ?_
              obtain ⟨z30, z30E, z30e⟩ : ∃ y : Int32, y.toInt = v12Z + 1 ∧ y = v12 + Int32.ofInt 1 := ⟨_, ti_add v12E (by decide) (by omega), rfl⟩
              refine V_iinc 3 [some (.ref 116), some (.int z29), some (.int v4), some (.int z30)] d_Mod_natures_33 rfl z30e.symm (by decide) rfl rfl ?_
              refine V_goto 11 d_Mod_natures_36 (by decide) ?_
              exact ihL9 z29 z29Z z30 ((v12Z + 1)) z29E z30E (by omega) (MQ2_r (F := (fun a b => ftM h a b tZ.toNat)) (by assumption) (twR_fl p24 z22E p27) v4E (by omega) (by omega) z28e z29e) (by omega) (by omega)
        exact L9 (Int.toNat ((10 - 1 : Int) + 1)) v3 v3Z 1 1 v3E tc_1 (by omega) (by assumption) (by unfold rO; split <;> omega) (by omega)
  exact L1 (Int.toNat ((5 - 0 : Int) + 1)) 0 0 0 0 tc_0 tc_0 (by omega) MQ2_0 (by omega)
abbrev q_Mod_reachesX (h : Hp) (n : Int32) (nZ : Int) (t : Int32) (tZ : Int) : Option Value → Hp → Prop := pInt (fun r h' => h = h' ∧ ((0 ≤ nZ ∧ nZ ≤ 4) ∧ BP r (MR3 (fun a b => ftM h a b tZ.toNat) nZ 10) ∨ ¬ (0 ≤ nZ ∧ nZ ≤ 4) ∧ r.toInt = -1))
set_option maxRecDepth 100000 in
theorem c_Mod_reachesX (h : Hp) (hI : Inv h) (n : Int32) (nZ : Int) (nE : n.toInt = nZ) (t : Int32) (tZ : Int) (tE : t.toInt = tZ) (tK : h.1 117 111 = t) (hy0 : ∀ i : Nat, i < 8 → (i : Int) < (h.1 117 111).toInt → (0 ≤ (h.1 117 (115 + 4 * i)).toInt ∧ (h.1 117 (115 + 4 * i)).toInt ≤ 1) ∧ 0 ≤ (h.1 117 (114 + 4 * i)).toInt) : Ct y_Mod_reaches b_Mod_reaches 4 (some .int) 2 52 [.ref 116, .int n] h (q_Mod_reachesX h n nZ t tZ) := by
  refine ct_ow R_Mod [some (.ref 116), some (.int n), none, none] rfl (by decide) rfl (Nat.le_of_ble_eq_true rfl) ?_
  have f0 : fr [] h h := fr_rf
  refine V_iload_n 1 d_Mod_reaches_0 rfl rfl ?_
  refine V_i2l d_Mod_reaches_1 (fun z1 z1e z1E => ?_)
  have z1F : z1.toInt = nZ := z1E.trans nE
  refine V_lconst 0 d_Mod_reaches_2 (by decide) ?_
  refine V_ldc2 d_Mod_reaches_3 wl_Mod_217 ?_
  refine N_callSI [.long z1, .long 0, .long 4] [] cs_Mod_95 d_Mod_reaches_6 rfl (Nat.le_of_ble_eq_true rfl) (by decide) (by decide) (c_Mod_in h z1 nZ z1F 0 0 tl_0 4 4 tl_4) (fun z2 h3 z2Z z2E p4 => ?_)
  obtain ⟨eh3, p4⟩ := p4
  subst eh3
  refine V_if_ne 14 z2E d_Mod_reaches_9 (by decide) (fun c5 => ?_) (fun c5 => ?_)
  ·
    refine V_iconst 0 d_Mod_reaches_14 (by decide) ?_
    refine V_istore_n 2 [some (.ref 116), some (.int n), some (.int 0), none] d_Mod_reaches_15 rfl (by decide) rfl rfl ?_
    refine V_iconst 1 d_Mod_reaches_16 (by decide) ?_
    refine V_istore_n 3 [some (.ref 116), some (.int n), some (.int 0), some (.int 1)] d_Mod_reaches_17 rfl (by decide) rfl rfl ?_
    have L6 : ∀ (nn : Nat) (v8 : Int32) (v8Z : Int) (v9 : Int32) (v9Z : Int), v8.toInt = v8Z → v9.toInt = v9Z → 1 ≤ v9Z ∧ v9Z ≤ 10 → BP v8 (MR3 (fun a b => ftM h a b tZ.toNat) nZ v9Z) → 10 - v9Z < (nn : Int) → V R_Mod b_Mod_reaches 4 (some .int) 2 52 (q_Mod_reachesX h n nZ t tZ) h 18 [some (.ref 116), some (.int n), some (.int v8), some (.int v9)] [] := by
      intro nn
      induction nn with
      | zero => intro v8 v8Z v9 v9Z v8E v9E q10 q11 hm12; exact absurd hm12 (by omega)
      | succ nn ihL6 =>
        intro v8 v8Z v9 v9Z v8E v9E q10 q11 hm12
        refine V_iload_n 3 d_Mod_reaches_18 rfl rfl ?_
        refine V_bipush 9 d_Mod_reaches_19 (by decide) ?_
        refine V_icmp_gt 44 v9E tc_9 d_Mod_reaches_21 (by decide) (fun c13 => ?_) (fun c13 => ?_)
        ·
          refine V_iload_n 2 d_Mod_reaches_44 rfl rfl ?_
          exact V_iret rfl d_Mod_reaches_45 ⟨v8, rfl, ⟨rfl, (Or.inl ⟨by omega, by rw [show (10 : Int) = v9Z by omega]; assumption⟩)⟩⟩
        ·
          refine V_iload_n 2 d_Mod_reaches_24 rfl rfl ?_
          refine V_aload_n 0 d_Mod_reaches_25 rfl rfl ?_
          refine V_iload_n 1 d_Mod_reaches_26 rfl rfl ?_
          refine V_iload_n 3 d_Mod_reaches_27 rfl rfl ?_
          refine N_callVI [.int n, .int v9] [.int v8] cv_Mod_236 sk_116 rfl d_Mod_reaches_28 rfl (Nat.le_of_ble_eq_true rfl) (by decide) (by decide) (c_Mod_doesFitX h hI n nZ nE v9 v9Z v9E t tZ tE tK hy0) (fun z14 h15 z14Z z14E p16 => ?_)
          obtain ⟨eh15, p16⟩ := p16
          subst eh15
          have := twR_01 p16
          refine N_callSI [.int z14] [.int v8] cs_Mod_196 d_Mod_reaches_31 rfl (Nat.le_of_ble_eq_true rfl) (by decide) (by decide) (c_Mod_flag h z14 z14Z z14E) (fun z17 h18 z17Z z17E p19 => ?_)
          obtain ⟨eh18, p19⟩ := p19
          subst eh18
          refine V_iload_n 3 d_Mod_reaches_34 rfl rfl ?_
          refine N_ishl d_Mod_reaches_35 (fun z20 z20Z z20E z20e => ?_)
          refine N_ior d_Mod_reaches_36 (fun z21 z21Z z21E z21e => ?_)
          refine V_istore_n 2 [some (.ref 116), some (.int n), some (.int z21), some (.int v9)] d_Mod_reaches_37 rfl (by decide) rfl rfl ?_
          obtain ⟨z22, z22E, z22e⟩ : ∃ y : Int32, y.toInt = v9Z + 1 ∧ y = v9 + Int32.ofInt 1 := ⟨_, ti_add v9E (by decide) (by omega), rfl⟩
          refine V_iinc 3 [some (.ref 116), some (.int n), some (.int z21), some (.int z22)] d_Mod_reaches_38 rfl z22e.symm (by decide) rfl rfl ?_
          refine V_goto 18 d_Mod_reaches_41 (by decide) ?_
          exact ihL6 z21 z21Z z22 ((v9Z + 1)) z21E z22E (by omega) (MR3_r (F := (fun a b => ftM h a b tZ.toNat)) (by assumption) (twR_fl p16 z14E p19) v9E (by omega) z20e z21e) (by omega)
    exact L6 (Int.toNat ((10 - 1 : Int) + 1)) 0 0 1 1 tc_0 tc_1 (by omega) MR3_0 (by omega)
  ·
    refine V_iconst (-1) d_Mod_reaches_12 (by decide) ?_
    exact V_iret rfl d_Mod_reaches_13 ⟨(-1), rfl, ⟨rfl, (Or.inr ⟨by omega, tc_m1⟩)⟩⟩
