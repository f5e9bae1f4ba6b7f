abbrev q_Rod_stirredX (h : Hp) (d : Int32) (dZ : Int) : Option Value → Hp → Prop := pInt (fun r h' => h = h' ∧ (r = sti d))
set_option maxRecDepth 100000 in
theorem c_Rod_stirredX (h : Hp) (d : Int32) (dZ : Int) (dE : d.toInt = dZ) : Ct y_Rod_stirred b_Rod_stirred 1 (some .int) 0 0 [.int d] h (q_Rod_stirredX h d dZ) := by
  refine ct_ow R_Rod [some (.int d)] rfl (by decide) rfl (Nat.le_of_ble_eq_true rfl) ?_
  have f0 : fr [] h h := fr_rf
  refine V_iload_n 0 d_Rod_stirred_0 rfl rfl ?_
  refine V_ldcw d_Rod_stirred_1 wc_Rod_321 ?_
  refine N_imulw d_Rod_stirred_4 (fun z1 z1Z z1E z1e => ?_)
  refine V_sipush 12345 d_Rod_stirred_5 (by decide) ?_
  refine N_iaddw d_Rod_stirred_8 (fun z2 z2Z z2E z2e => ?_)
  exact V_iret rfl d_Rod_stirred_9 ⟨z2, rfl, ⟨rfl, (by rw [z2e, z1e]; rfl)⟩⟩
abbrev q_Rod_drawnBitsX (h : Hp) (d : Int32) (dZ : Int) : Option Value → Hp → Prop := pInt (fun r h' => h = h' ∧ (r.toInt = dr d))
set_option maxRecDepth 100000 in
theorem c_Rod_drawnBitsX (h : Hp) (d : Int32) (dZ : Int) (dE : d.toInt = dZ) : Ct y_Rod_drawnBits b_Rod_drawnBits 1 (some .int) 0 0 [.int d] h (q_Rod_drawnBitsX h d dZ) := by
  refine ct_ow R_Rod [some (.int d)] rfl (by decide) rfl (Nat.le_of_ble_eq_true rfl) ?_
  have f0 : fr [] h h := fr_rf
  refine V_iload_n 0 d_Rod_drawnBits_0 rfl rfl ?_
  refine V_bipush 16 d_Rod_drawnBits_1 (by decide) ?_
  refine N_iushr d_Rod_drawnBits_3 (fun z1 z1Z z1E z1e => ?_)
  refine V_sipush 32767 d_Rod_drawnBits_4 (by decide) ?_
  refine N_iand d_Rod_drawnBits_7 (fun z2 z2Z z2E z2e => ?_)
  exact V_iret rfl d_Rod_drawnBits_8 ⟨z2, rfl, ⟨rfl, (z2E.trans (drC_of z1e z2e z2E))⟩⟩
def S_Rod_luckX : List (Nat × Option Nat) := [(17, some 3), (17, some 4), (18, none), (19, none), (20, none), (21, none), (22, none), (23, none), (24, some 4), (25, none), (26, none), (27, none), (28, none), (29, some 4), (30, none), (31, none), (32, none), (33, none)]
abbrev q_Rod_luckX (h : Hp) (a : Int32) (aZ : Int) (n : Int32) (nZ : Int) (w : Int32) (wZ : Int) (g : Int32) (gZ : Int) : Option Value → Hp → Prop := pInt (fun r h' => Inv h' ∧ fr S_Rod_luckX h h' ∧ ((1 ≤ nZ ∧ nZ ≤ 60) ∧ r.toInt = (ct (LW (h.1 2) (lkB (fun i => (h.1 6 i).toInt) (wZ * gZ) a nZ.toNat) (wZ * gZ)) 32 : Nat) ∨ ¬ (1 ≤ nZ ∧ nZ ≤ 60) ∧ r.toInt = -1))
set_option maxRecDepth 100000 in
theorem c_Rod_luckX (h : Hp) (hI : Inv h) (a : Int32) (aZ : Int) (aE : a.toInt = aZ) (n : Int32) (nZ : Int) (nE : n.toInt = nZ) (w : Int32) (wZ : Int) (wE : w.toInt = wZ) (wK : h.1 1 0 = w) (g : Int32) (gZ : Int) (gE : g.toInt = gZ) (gK : h.1 1 1 = g) : Ct y_Rod_luck b_Rod_luck 9 (some .int) 3 102 [.ref 85, .int a, .int n] h (q_Rod_luckX h a aZ n nZ w wZ g gZ) := by
  refine ct_ow R_Rod [some (.ref 85), some (.int a), some (.int n), none, none, none, none, none, none] rfl (by decide) rfl (Nat.le_of_ble_eq_true rfl) ?_
  have f0 : fr S_Rod_luckX h h := fr_rf
  have g1 : 2 ≤ wZ ∧ wZ ≤ 4 := inv_at hI wE wK.symm rfl
  have g2 : 2 ≤ gZ ∧ gZ ≤ 4 := inv_at hI gE gK.symm rfl
  have m24 := mul24 (A := wZ) (B := gZ) (by omega) (by omega)
  refine V_iload_n 2 d_Rod_luck_0 rfl rfl ?_
  refine V_iconst 1 d_Rod_luck_1 (by decide) ?_
  refine V_icmp_lt 11 nE tc_1 d_Rod_luck_2 (by decide) (fun c3 => ?_) (fun c3 => ?_)
  ·
    refine V_iconst (-1) d_Rod_luck_11 (by decide) ?_
    exact V_iret rfl d_Rod_luck_12 ⟨(-1), rfl, ⟨hI, f0, (Or.inr ⟨by omega, tc_m1⟩)⟩⟩
  ·
    refine V_iload_n 2 d_Rod_luck_5 rfl rfl ?_
    refine V_bipush 60 d_Rod_luck_6 (by decide) ?_
    refine V_icmp_le 13 nE tc_60 d_Rod_luck_8 (by decide) (fun c4 => ?_) (fun c4 => ?_)
    ·
      refine V_aload_n 0 d_Rod_luck_13 rfl rfl ?_
      refine V_getR fa_Rod_16 sk_85 rfl d_Rod_luck_14 ?_
      refine V_aload_n 0 d_Rod_luck_17 rfl rfl ?_
      refine V_getR fa_Rod_12 sk_85 rfl d_Rod_luck_18 ?_
      obtain ⟨z5, z5Z, z5E, z5e⟩ : ∃ (y : Int32) (Y : Int), y.toInt = Y ∧ y = h.1 0 3 := ⟨_, _, rfl, rfl⟩
      obtain ⟨z6, z6Z, z6E, z6e⟩ : ∃ (y : Int32) (Y : Int), y.toInt = Y ∧ y = h.1 0 4 := ⟨_, _, rfl, rfl⟩
      refine N_callVV [.ref 0] [] cv_Rod_84 sk_17 rfl d_Rod_luck_21 rfl (Nat.le_of_ble_eq_true rfl) (by decide) (by decide) (c_County_copyX_1_0 h hI z5 z5Z z5E z5e.symm z6 z6Z z6E z6e.symm) (fun h8 p9 => ?_)
      obtain ⟨hI10, fh8, p9⟩ := p9
      have f11 : fr S_Rod_luckX h h8 := fr_call f0 fh8 rfl
      refine V_aload_n 0 d_Rod_luck_24 rfl rfl ?_
      refine V_getR fa_Rod_16 sk_85 rfl d_Rod_luck_25 ?_
      refine V_getR fa_Rod_91 sk_17 rfl d_Rod_luck_28 ?_
      refine V_astore_n 3 [some (.ref 85), some (.int a), some (.int n), some (.ref 18), none, none, none, none, none] d_Rod_luck_31 rfl (by decide) rfl rfl ?_
      refine V_iconst 1 d_Rod_luck_32 (by decide) ?_
      refine V_aload_n 3 d_Rod_luck_33 rfl rfl ?_
      refine N_callVI [] [.int 1] cv_Rod_204 sk_18 rfl d_Rod_luck_34 rfl (Nat.le_of_ble_eq_true rfl) (by decide) (by decide) (c_Land_cells_1 h8 hI10 w wZ wE ((p9 1 0 (by unfold cpl; omega)).trans wK) g gZ gE ((p9 1 1 (by unfold cpl; omega)).trans gK)) (fun z12 h13 z12Z z12E p14 => ?_)
      obtain ⟨eh13, p14⟩ := p14
      subst eh13
      refine N_max tc_1 z12E wm_Rod_211 d_Rod_luck_37 (Nat.le_of_ble_eq_true rfl) (by decide) wmax1 wM2 wmax3 (fun z15 z15Z z15E z15e z15g => ?_)
      have hcm : z15Z = wZ * gZ := by omega
      refine V_istore 4 [some (.ref 85), some (.int a), some (.int n), some (.ref 18), some (.int z15), none, none, none, none] d_Rod_luck_40 (by decide) rfl rfl ?_
      refine V_iload_n 1 d_Rod_luck_42 rfl rfl ?_
      refine V_istore 5 [some (.ref 85), some (.int a), some (.int n), some (.ref 18), some (.int z15), some (.int a), none, none, none] d_Rod_luck_43 (by decide) rfl rfl ?_
      refine V_iconst 0 d_Rod_luck_45 (by decide) ?_
      refine V_istore 6 [some (.ref 85), some (.int a), some (.int n), some (.ref 18), some (.int z15), some (.int a), some (.int 0), none, none] d_Rod_luck_46 (by decide) rfl rfl ?_
      have L16 : ∀ (nn : Nat) (v18 : Int32) (v18Z : Int) (v19 : Int32) (v19Z : Int) (h20 : Hp), v18.toInt = v18Z → v19.toInt = v19Z → Inv h20 → fr S_Rod_luckX h h20 → h20.1 18 0 = w → h20.1 18 1 = g → 0 ≤ v19Z ∧ v19Z ≤ nZ → v18 = lkv a (v19Z).toNat → lkR (fun i => (h.1 6 i).toInt) (wZ * gZ) a h20 23 v19Z → lw9 h h20 → nZ - v19Z < (nn : Int) → V R_Rod b_Rod_luck 9 (some .int) 3 102 (q_Rod_luckX h a aZ n nZ w wZ g gZ) h20 48 [some (.ref 85), some (.int a), some (.int n), some (.ref 18), some (.int z15), some (.int v18), some (.int v19), none, none] [] := by
        intro nn
        induction nn with
        | zero => intro v18 v18Z v19 v19Z h20 v18E v19E Ih20 Fh20 K21 K22 q23 q24 q25 q26 hm27; exact absurd hm27 (by omega)
        | succ nn ihL16 =>
          intro v18 v18Z v19 v19Z h20 v18E v19E Ih20 Fh20 K21 K22 q23 q24 q25 q26 hm27
          refine V_iload d_Rod_luck_48 rfl ?_
          refine V_iload_n 2 d_Rod_luck_50 rfl rfl ?_
          refine V_icmp_ge 115 v19E nE d_Rod_luck_51 (by decide) (fun c28 => ?_) (fun c28 => ?_)
          ·
            refine V_aload_n 3 d_Rod_luck_115 rfl rfl ?_
            refine N_callVI [] [] cv_Rod_168 sk_18 rfl d_Rod_luck_116 rfl (Nat.le_of_ble_eq_true rfl) (by decide) (by decide) (c_Land_wellsX_1 h20 Ih20 w wZ wE K21 g gZ gE K22) (fun z29 h30 z29Z z29E p31 => ?_)
            obtain ⟨eh30, p31⟩ := p31
            subst eh30
            exact V_iret rfl d_Rod_luck_119 ⟨z29, rfl, ⟨Ih20, Fh20, (Or.inl ⟨by omega, p31.trans (congrArg (fun q : Nat => (q : Int)) (ct_cg 32 (fun i _ => LW_W (by omega) (by assumption) (fun j hj => by rw [show nZ.toNat = (v19Z).toNat by omega]; exact (show lkR (fun i => (h.1 6 i).toInt) (wZ * gZ) a h20 23 v19Z from by assumption) j hj) i)))⟩)⟩⟩
          ·
            refine V_iload d_Rod_luck_54 rfl ?_
            refine N_callSI [.int v18] [] cs_Rod_277 d_Rod_luck_56 rfl (Nat.le_of_ble_eq_true rfl) (by decide) (by decide) (c_Rod_stirredX h20 v18 v18Z v18E) (fun z32 h33 z32Z z32E p34 => ?_)
            obtain ⟨eh33, p34⟩ := p34
            subst eh33
            refine V_istore 5 [some (.ref 85), some (.int a), some (.int n), some (.ref 18), some (.int z15), some (.int z32), some (.int v19), none, none] d_Rod_luck_59 (by decide) rfl rfl ?_
            refine V_iload d_Rod_luck_61 rfl ?_
            refine N_callSI [.int z32] [] cs_Rod_280 d_Rod_luck_63 rfl (Nat.le_of_ble_eq_true rfl) (by decide) (by decide) (c_Rod_drawnBitsX h20 z32 z32Z z32E) (fun z35 h36 z35Z z35E p37 => ?_)
            obtain ⟨eh36, p37⟩ := p37
            subst eh36
            have D38 : z35Z = dr z32 := z35E.symm.trans p37
            have g39 := dr_b z32
            refine V_iload d_Rod_luck_66 rfl ?_
            refine N_irem z35E z15E (by omega) d_Rod_luck_68 (fun z40 z40e z40E => ?_)
            obtain ⟨z40Z, z40G⟩ : ∃ Y : Int, Y = z35Z % z15Z := ⟨_, rfl⟩
            rw [← z40G] at z40E
            have g41 : 0 ≤ z40Z ∧ z40Z < z15Z := by rw [z40G]; exact ⟨Int.emod_nonneg _ (by omega), Int.emod_lt_of_pos _ (by omega)⟩
            refine V_istore 7 [some (.ref 85), some (.int a), some (.int n), some (.ref 18), some (.int z15), some (.int z32), some (.int v19), some (.int z40), none] d_Rod_luck_69 (by decide) rfl rfl ?_
            refine V_iload d_Rod_luck_71 rfl ?_
            refine N_callSI [.int z32] [] cs_Rod_277 d_Rod_luck_73 rfl (Nat.le_of_ble_eq_true rfl) (by decide) (by decide) (c_Rod_stirredX h20 z32 z32Z z32E) (fun z42 h43 z42Z z42E p44 => ?_)
            obtain ⟨eh43, p44⟩ := p44
            subst eh43
            refine V_istore 5 [some (.ref 85), some (.int a), some (.int n), some (.ref 18), some (.int z15), some (.int z42), some (.int v19), some (.int z40), none] d_Rod_luck_76 (by decide) rfl rfl ?_
            refine V_iload d_Rod_luck_78 rfl ?_
            refine N_callSI [.int z42] [] cs_Rod_280 d_Rod_luck_80 rfl (Nat.le_of_ble_eq_true rfl) (by decide) (by decide) (c_Rod_drawnBitsX h20 z42 z42Z z42E) (fun z45 h46 z45Z z45E p47 => ?_)
            obtain ⟨eh46, p47⟩ := p47
            subst eh46
            have D48 : z45Z = dr z42 := z45E.symm.trans p47
            have g49 := dr_b z42
            refine V_bipush 9 d_Rod_luck_83 (by decide) ?_
            refine N_irem z45E tc_9 (by omega) d_Rod_luck_85 (fun z50 z50e z50E => ?_)
            refine V_iconst 1 d_Rod_luck_86 (by decide) ?_
            refine V_iadd z50E tc_1 (by omega) d_Rod_luck_87 (fun z51 z51e z51E => ?_)
            refine V_istore 8 [some (.ref 85), some (.int a), some (.int n), some (.ref 18), some (.int z15), some (.int z42), some (.int v19), some (.int z40), some (.int z51)] d_Rod_luck_88 (by decide) rfl rfl ?_
            refine V_aload_n 3 d_Rod_luck_90 rfl rfl ?_
            refine V_getR fa_Rod_141 sk_18 rfl d_Rod_luck_91 ?_
            refine V_iload d_Rod_luck_94 rfl ?_
            refine V_aload_n 3 d_Rod_luck_96 rfl rfl ?_
            refine V_getR fa_Rod_141 sk_18 rfl d_Rod_luck_97 ?_
            refine V_iload d_Rod_luck_100 rfl ?_
            refine N_iald sk_23 z40E (by omega) d_Rod_luck_102 (fun z52 z52Z z52E z52e => ?_)
            refine V_iload d_Rod_luck_103 rfl ?_
            refine N_max z52E z51E wm_Rod_211 d_Rod_luck_105 (Nat.le_of_ble_eq_true rfl) (by decide) wmax1 wM2 wmax3 (fun z53 z53Z z53E z53e z53g => ?_)
            refine N_iast sk_23 z40E (by omega) d_Rod_luck_108 (fun h54 eh54 => ?_)
            have hI55 : Inv h54 := inv_full Ih20 eh54 rfl
            have f56 : fr S_Rod_luckX h h54 := fr_put Fh20 eh54 rfl
            obtain ⟨z57, z57E, z57e⟩ : ∃ y : Int32, y.toInt = v19Z + 1 ∧ y = v19 + Int32.ofInt 1 := ⟨_, ti_add v19E (by decide) (by omega), rfl⟩
            refine V_iinc 6 [some (.ref 85), some (.int a), some (.int n), some (.ref 18), some (.int z15), some (.int z42), some (.int z57), some (.int z40), some (.int z51)] d_Rod_luck_109 rfl z57e.symm (by decide) rfl rfl ?_
            refine V_goto 48 d_Rod_luck_112 (by decide) ?_
            refine V_drop 7 [some (.ref 85), some (.int a), some (.int n), some (.ref 18), some (.int z15), some (.int z42), some (.int z57), none, some (.int z51)] rfl ?_
            refine V_drop 8 [some (.ref 85), some (.int a), some (.int n), some (.ref 18), some (.int z15), some (.int z42), some (.int z57), none, none] rfl ?_
            exact ihL16 z42 z42Z z57 ((v19Z + 1)) h54 z42E z57E hI55 f56 (kn_ne eh54 K21 (by decide)) (kn_ne eh54 K22 (by decide)) (by omega) (lkv_s (by omega) (by assumption) p34 p44) (lkR_s (X := z35Z) (D := ((z45Z % 9) + 1)) (by omega) (by assumption) (by assumption) p34 p44 (by omega) (by omega) (by rw [← hcm]; exact z40G) (by omega) z52e z52E z53E (by omega) eh54) (lw9_put (by assumption) eh54 (by decide)) (by omega)
      exact L16 (Int.toNat ((nZ - 0 : Int) + 1)) a aZ 0 0 h8 aE tc_0 hI10 f11 ((p9 1 0 (by unfold cpl; omega)).trans wK) ((p9 1 1 (by unfold cpl; omega)).trans gK) (by omega) rfl (lkR_0 p9) (lw9_of p9) (by omega)
    ·
      refine V_iconst (-1) d_Rod_luck_11 (by decide) ?_
      exact V_iret rfl d_Rod_luck_12 ⟨(-1), rfl, ⟨hI, f0, (Or.inr ⟨by omega, tc_m1⟩)⟩⟩
def S_Mod_luckX : List (Nat × Option Nat) := [(127, none)]
abbrev q_Mod_luckX (h : Hp) (a : Int32) (aZ : Int) (n : Int32) (nZ : Int) (w : Int32) (wZ : Int) (g : Int32) (gZ : Int) : Option Value → Hp → Prop := pInt (fun r h' => Inv h' ∧ fr S_Mod_luckX h h' ∧ ((1 ≤ nZ ∧ nZ ≤ 60) ∧ r.toInt = (ct (LW (fun i => h.1 117 i) (lkB (fun i => (h.1 117 (64 + i)).toInt) (wZ * gZ) a nZ.toNat) (wZ * gZ)) (wZ * gZ).toNat : Nat) ∨ ¬ (1 ≤ nZ ∧ nZ ≤ 60) ∧ r.toInt = -1))
set_option maxRecDepth 100000 in
theorem c_Mod_luckX (h : Hp) (hI : Inv h) (a : Int32) (aZ : Int) (aE : a.toInt = aZ) (n : Int32) (nZ : Int) (nE : n.toInt = nZ) (w : Int32) (wZ : Int) (wE : w.toInt = wZ) (wK : h.1 116 2 = w) (g : Int32) (gZ : Int) (gE : g.toInt = gZ) (gK : h.1 116 3 = g) : Ct y_Mod_luck b_Mod_luck 7 (some .int) 1 25 [.ref 116, .int a, .int n] h (q_Mod_luckX h a aZ n nZ w wZ g gZ) := by
  refine ct_ow R_Mod [some (.ref 116), some (.int a), some (.int n), none, none, none, none] rfl (by decide) rfl (Nat.le_of_ble_eq_true rfl) ?_
  have f0 : fr S_Mod_luckX h h := fr_rf
  have g1 : 2 ≤ wZ ∧ wZ ≤ 4 := inv_at hI wE wK.symm rfl
  have g2 : 2 ≤ gZ ∧ gZ ≤ 4 := inv_at hI gE gK.symm rfl
  have m24 := mul24 (A := wZ) (B := gZ) (by omega) (by omega)
  refine V_iload_n 2 d_Mod_luck_0 rfl rfl ?_
  refine V_i2l d_Mod_luck_1 (fun z3 z3e z3E => ?_)
  have z3F : z3.toInt = nZ := z3E.trans nE
  refine V_lconst 1 d_Mod_luck_2 (by decide) ?_
  refine V_ldc2 d_Mod_luck_3 wl_Mod_314 ?_
  refine N_callSI [.long z3, .long 1, .long 60] [] cs_Mod_95 d_Mod_luck_6 rfl (Nat.le_of_ble_eq_true rfl) (by decide) (by decide) (c_Mod_in h z3 nZ z3F 1 1 tl_1 60 60 tl_60) (fun z4 h5 z4Z z4E p6 => ?_)
  obtain ⟨eh5, p6⟩ := p6
  subst eh5
  refine V_if_ne 14 z4E d_Mod_luck_9 (by decide) (fun c7 => ?_) (fun c7 => ?_)
  ·
    refine V_iconst 0 d_Mod_luck_14 (by decide) ?_
    refine V_istore_n 3 [some (.ref 116), some (.int a), some (.int n), some (.int 0), none, none, none] d_Mod_luck_15 rfl (by decide) rfl rfl ?_
    have L8 : ∀ (nn : Nat) (v10 : Int32) (v10Z : Int) (h11 : Hp), v10.toInt = v10Z → Inv h11 → fr S_Mod_luckX h h11 → h11.1 116 2 = w → h11.1 116 3 = g → 0 ≤ v10Z ∧ v10Z ≤ 16 → lc0 h h11 v10Z → 16 - v10Z < (nn : Int) → V R_Mod b_Mod_luck 7 (some .int) 1 25 (q_Mod_luckX h a aZ n nZ w wZ g gZ) h11 16 [some (.ref 116), some (.int a), some (.int n), some (.int v10), none, none, none] [] := by
      intro nn
      induction nn with
      | zero => intro v10 v10Z h11 v10E Ih11 Fh11 K12 K13 q14 q15 hm16; exact absurd hm16 (by omega)
      | succ nn ihL8 =>
        intro v10 v10Z h11 v10E Ih11 Fh11 K12 K13 q14 q15 hm16
        refine V_iload_n 3 d_Mod_luck_16 rfl rfl ?_
        refine V_bipush 16 d_Mod_luck_17 (by decide) ?_
        refine V_icmp_ge 43 v10E tc_16 d_Mod_luck_19 (by decide) (fun c17 => ?_) (fun c17 => ?_)
        ·
          refine V_iload_n 1 d_Mod_luck_43 rfl rfl ?_
          refine V_istore_n 3 [some (.ref 116), some (.int a), some (.int n), some (.int a), none, none, none] d_Mod_luck_44 rfl (by decide) rfl rfl ?_
          refine V_iconst 0 d_Mod_luck_45 (by decide) ?_
          refine V_istore 4 [some (.ref 116), some (.int a), some (.int n), some (.int a), some (.int 0), none, none] d_Mod_luck_46 (by decide) rfl rfl ?_
          have L18 : ∀ (nn : Nat) (v20 : Int32) (v20Z : Int) (v21 : Int32) (v21Z : Int) (h22 : Hp), v20.toInt = v20Z → v21.toInt = v21Z → Inv h22 → fr S_Mod_luckX h h22 → h22.1 116 2 = w → h22.1 116 3 = g → 0 ≤ v21Z ∧ v21Z ≤ nZ → v20 = lkv a (v21Z).toNat → lkR (fun i => (h.1 117 (64 + i)).toInt) (wZ * gZ) a h22 127 v21Z → nZ - v21Z < (nn : Int) → V R_Mod b_Mod_luck 7 (some .int) 1 25 (q_Mod_luckX h a aZ n nZ w wZ g gZ) h22 48 [some (.ref 116), some (.int a), some (.int n), some (.int v20), some (.int v21), none, none] [] := by
            intro nn
            induction nn with
            | zero => intro v20 v20Z v21 v21Z h22 v20E v21E Ih22 Fh22 K23 K24 q25 q26 q27 hm28; exact absurd hm28 (by omega)
            | succ nn ihL18 =>
              intro v20 v20Z v21 v21Z h22 v20E v21E Ih22 Fh22 K23 K24 q25 q26 q27 hm28
              refine V_iload d_Mod_luck_48 rfl ?_
              refine V_iload_n 2 d_Mod_luck_50 rfl rfl ?_
              refine V_icmp_ge 141 v21E nE d_Mod_luck_51 (by decide) (fun c29 => ?_) (fun c29 => ?_)
              ·
                have hlk9 : lkR (fun i => (h.1 117 (64 + i)).toInt) (wZ * gZ) a h22 127 nZ := by rw [show nZ = v21Z by omega]; assumption
                refine V_iconst 0 d_Mod_luck_141 (by decide) ?_
                refine V_istore 4 [some (.ref 116), some (.int a), some (.int n), some (.int v20), some (.int 0), none, none] d_Mod_luck_142 (by decide) rfl rfl ?_
                refine V_iconst 0 d_Mod_luck_144 (by decide) ?_
                refine V_istore 5 [some (.ref 116), some (.int a), some (.int n), some (.int v20), some (.int 0), some (.int 0), none] d_Mod_luck_145 (by decide) rfl rfl ?_
                have L30 : ∀ (nn : Nat) (v32 : Int32) (v32Z : Int) (v33 : Int32) (v33Z : Int), v32.toInt = v32Z → v33.toInt = v33Z → 0 ≤ v33Z ∧ v33Z ≤ wZ * gZ → v32Z = (ct (LW (fun i => h.1 117 i) (lkB (fun i => (h.1 117 (64 + i)).toInt) (wZ * gZ) a nZ.toNat) (wZ * gZ)) (v33Z).toNat : Nat) → 0 ≤ v32Z ∧ v32Z ≤ v33Z → 16 - v33Z < (nn : Int) → V R_Mod b_Mod_luck 7 (some .int) 1 25 (q_Mod_luckX h a aZ n nZ w wZ g gZ) h22 147 [some (.ref 116), some (.int a), some (.int n), some (.int v20), some (.int v32), some (.int v33), none] [] := by
                  intro nn
                  induction nn with
                  | zero => intro v32 v32Z v33 v33Z v32E v33E q34 q35 q36 hm37; exact absurd hm37 (by omega)
                  | succ nn ihL30 =>
                    intro v32 v32Z v33 v33Z v32E v33E q34 q35 q36 hm37
                    refine V_iload d_Mod_luck_147 rfl ?_
                    refine V_aload_n 0 d_Mod_luck_149 rfl rfl ?_
                    refine N_callVI [] [.int v33] cv_Mod_183 sk_116 rfl d_Mod_luck_150 rfl (Nat.le_of_ble_eq_true rfl) (by decide) (by decide) (c_Mod_cellMany h22 Ih22 w wZ wE K23 g gZ gE K24) (fun z38 h39 z38Z z38E p40 => ?_)
                    obtain ⟨eh39, p40⟩ := p40
                    subst eh39
                    refine V_icmp_ge 189 v33E z38E d_Mod_luck_153 (by decide) (fun c41 => ?_) (fun c41 => ?_)
                    ·
                      refine V_iload d_Mod_luck_189 rfl ?_
                      exact V_iret rfl d_Mod_luck_191 ⟨v32, rfl, ⟨Ih22, Fh22, (Or.inl ⟨by omega, by rw [v32E, show (wZ * gZ).toNat = (v33Z).toNat by omega]; assumption⟩)⟩⟩
                    ·
                      refine V_iload d_Mod_luck_156 rfl ?_
                      refine V_aload_n 0 d_Mod_luck_158 rfl rfl ?_
                      refine V_getR fa_Mod_7 sk_116 rfl d_Mod_luck_159 ?_
                      refine V_iconst 0 d_Mod_luck_162 (by decide) ?_
                      refine V_iload d_Mod_luck_163 rfl ?_
                      refine V_iadd tc_0 v33E (by omega) d_Mod_luck_165 (fun z42 z42e z42E => ?_)
                      refine N_iald sk_117 z42E (by omega) d_Mod_luck_166 (fun z43 z43Z z43E z43e => ?_)
                      refine V_aload_n 0 d_Mod_luck_167 rfl rfl ?_
                      refine V_getR fa_Mod_41 sk_116 rfl d_Mod_luck_168 ?_
                      refine V_iload d_Mod_luck_171 rfl ?_
                      refine N_iald sk_127 v33E (by omega) d_Mod_luck_173 (fun z44 z44Z z44E z44e => ?_)
                      refine N_callSI [.int z43, .int z44] [.int v32] cs_Mod_188 d_Mod_luck_174 rfl (Nat.le_of_ble_eq_true rfl) (by decide) (by decide) (c_Mod_isWellByX h22 z43 z43Z z43E z44 z44Z z44E) (fun z45 h46 z45Z z45E p47 => ?_)
                      obtain ⟨eh46, p47⟩ := p47
                      subst eh46
                      refine N_callSI [.int z45] [.int v32] cs_Mod_196 d_Mod_luck_177 rfl (Nat.le_of_ble_eq_true rfl) (by decide) (by decide) (c_Mod_flag h22 z45 z45Z z45E) (fun z48 h49 z48Z z48E p50 => ?_)
                      obtain ⟨eh49, p50⟩ := p50
                      subst eh49
                      refine V_iadd v32E z48E (by omega) d_Mod_luck_180 (fun z51 z51e z51E => ?_)
                      refine V_istore 4 [some (.ref 116), some (.int a), some (.int n), some (.int v20), some (.int z51), some (.int v33), none] d_Mod_luck_181 (by decide) rfl rfl ?_
                      obtain ⟨z52, z52E, z52e⟩ : ∃ y : Int32, y.toInt = v33Z + 1 ∧ y = v33 + Int32.ofInt 1 := ⟨_, ti_add v33E (by decide) (by omega), rfl⟩
                      refine V_iinc 5 [some (.ref 116), some (.int a), some (.int n), some (.int v20), some (.int z51), some (.int z52), none] d_Mod_luck_183 rfl z52e.symm (by decide) rfl rfl ?_
                      refine V_goto 147 d_Mod_luck_186 (by decide) ?_
                      exact ihL30 z51 ((v32Z + z48Z)) z52 ((v33Z + 1)) z51E z52E (by omega) (ct_s (by omega) (by assumption) (LW_fm (by omega) (by omega) hlk9 (z43e.trans (Fh22.1 117 _ rfl)) z43E z44e z44E p47 z45E p50 z48E)) (by omega) (by omega)
                exact L30 (Int.toNat ((16 - 0 : Int) + 1)) 0 0 0 0 tc_0 tc_0 (by omega) rfl (by omega) (by omega)
              ·
                refine V_iload_n 3 d_Mod_luck_54 rfl rfl ?_
                refine V_ldcw d_Mod_luck_55 wc_Mod_316 ?_
                refine N_imulw d_Mod_luck_58 (fun z53 z53Z z53E z53e => ?_)
                refine V_sipush 12345 d_Mod_luck_59 (by decide) ?_
                refine N_iaddw d_Mod_luck_62 (fun z54 z54Z z54E z54e => ?_)
                have C55 : z54 = sti v20 := by rw [z54e, z53e]; rfl
                refine V_istore_n 3 [some (.ref 116), some (.int a), some (.int n), some (.int z54), some (.int v21), none, none] d_Mod_luck_63 rfl (by decide) rfl rfl ?_
                refine V_iload_n 3 d_Mod_luck_64 rfl rfl ?_
                refine V_bipush 16 d_Mod_luck_65 (by decide) ?_
                refine N_ishr d_Mod_luck_67 (fun z56 z56Z z56E z56e => ?_)
                refine V_sipush 32767 d_Mod_luck_68 (by decide) ?_
                refine N_iand d_Mod_luck_71 (fun z57 z57Z z57E z57e => ?_)
                have g58 := drM_of z56e z57e z57E
                have g59 := dr_b z54
                refine V_aload_n 0 d_Mod_luck_72 rfl rfl ?_
                refine N_callVI [] [.int z57] cv_Mod_183 sk_116 rfl d_Mod_luck_73 rfl (Nat.le_of_ble_eq_true rfl) (by decide) (by decide) (c_Mod_cellMany h22 Ih22 w wZ wE K23 g gZ gE K24) (fun z60 h61 z60Z z60E p62 => ?_)
                obtain ⟨eh61, p62⟩ := p62
                subst eh61
                have hcm : z60Z = wZ * gZ := by omega
                refine N_irem z57E z60E (by omega) d_Mod_luck_76 (fun z63 z63e z63E => ?_)
                obtain ⟨z63Z, z63G⟩ : ∃ Y : Int, Y = z57Z % z60Z := ⟨_, rfl⟩
                rw [← z63G] at z63E
                have g64 : 0 ≤ z63Z ∧ z63Z < z60Z := by rw [z63G]; exact ⟨Int.emod_nonneg _ (by omega), Int.emod_lt_of_pos _ (by omega)⟩
                refine V_istore 5 [some (.ref 116), some (.int a), some (.int n), some (.int z54), some (.int v21), some (.int z63), none] d_Mod_luck_77 (by decide) rfl rfl ?_
                refine V_iload_n 3 d_Mod_luck_79 rfl rfl ?_
                refine V_ldcw d_Mod_luck_80 wc_Mod_316 ?_
                refine N_imulw d_Mod_luck_83 (fun z65 z65Z z65E z65e => ?_)
                refine V_sipush 12345 d_Mod_luck_84 (by decide) ?_
                refine N_iaddw d_Mod_luck_87 (fun z66 z66Z z66E z66e => ?_)
                have C67 : z66 = sti z54 := by rw [z66e, z65e]; rfl
                refine V_istore_n 3 [some (.ref 116), some (.int a), some (.int n), some (.int z66), some (.int v21), some (.int z63), none] d_Mod_luck_88 rfl (by decide) rfl rfl ?_
                refine V_iload_n 3 d_Mod_luck_89 rfl rfl ?_
                refine V_bipush 16 d_Mod_luck_90 (by decide) ?_
                refine N_ishr d_Mod_luck_92 (fun z68 z68Z z68E z68e => ?_)
                refine V_sipush 32767 d_Mod_luck_93 (by decide) ?_
                refine N_iand d_Mod_luck_96 (fun z69 z69Z z69E z69e => ?_)
                have g70 := drM_of z68e z69e z69E
                have g71 := dr_b z66
                refine V_bipush 9 d_Mod_luck_97 (by decide) ?_
                refine N_irem z69E tc_9 (by omega) d_Mod_luck_99 (fun z72 z72e z72E => ?_)
                refine V_iconst 1 d_Mod_luck_100 (by decide) ?_
                refine V_iadd z72E tc_1 (by omega) d_Mod_luck_101 (fun z73 z73e z73E => ?_)
                refine V_istore 6 [some (.ref 116), some (.int a), some (.int n), some (.int z66), some (.int v21), some (.int z63), some (.int z73)] d_Mod_luck_102 (by decide) rfl rfl ?_
                refine V_aload_n 0 d_Mod_luck_104 rfl rfl ?_
                refine V_getR fa_Mod_41 sk_116 rfl d_Mod_luck_105 ?_
                refine V_iload d_Mod_luck_108 rfl ?_
                refine V_iload d_Mod_luck_110 rfl ?_
                refine V_aload_n 0 d_Mod_luck_112 rfl rfl ?_
                refine V_getR fa_Mod_41 sk_116 rfl d_Mod_luck_113 ?_
                refine V_iload d_Mod_luck_116 rfl ?_
                refine N_iald sk_127 z63E (by omega) d_Mod_luck_118 (fun z74 z74Z z74E z74e => ?_)
                refine V_icmp_le 127 z73E z74E d_Mod_luck_119 (by decide) (fun c75 => ?_) (fun c75 => ?_)
                ·
                  refine V_aload_n 0 d_Mod_luck_127 rfl rfl ?_
                  refine V_getR fa_Mod_41 sk_116 rfl d_Mod_luck_128 ?_
                  refine V_iload d_Mod_luck_131 rfl ?_
                  refine N_iald sk_127 z63E (by omega) d_Mod_luck_133 (fun z76 z76Z z76E z76e => ?_)
                  have g77 : z76Z = z74Z := by rw [← z76E, ← z74E, z76e, z74e]
                  refine N_iast sk_127 z63E (by omega) d_Mod_luck_134 (fun h78 eh78 => ?_)
                  have hI79 : Inv h78 := inv_full Ih22 eh78 rfl
                  have f80 : fr S_Mod_luckX h h78 := fr_put Fh22 eh78 rfl
                  obtain ⟨z81, z81E, z81e⟩ : ∃ y : Int32, y.toInt = v21Z + 1 ∧ y = v21 + Int32.ofInt 1 := ⟨_, ti_add v21E (by decide) (by omega), rfl⟩
                  refine V_iinc 4 [some (.ref 116), some (.int a), some (.int n), some (.int z66), some (.int z81), some (.int z63), some (.int z73)] d_Mod_luck_135 rfl z81e.symm (by decide) rfl rfl ?_
                  refine V_goto 48 d_Mod_luck_138 (by decide) ?_
                  refine V_drop 5 [some (.ref 116), some (.int a), some (.int n), some (.int z66), some (.int z81), none, some (.int z73)] rfl ?_
                  refine V_drop 6 [some (.ref 116), some (.int a), some (.int n), some (.int z66), some (.int z81), none, none] rfl ?_
                  exact ihL18 z66 z66Z z81 ((v21Z + 1)) h78 z66E z81E hI79 f80 (kn_ne eh78 K23 (by decide)) (kn_ne eh78 K24 (by decide)) (by omega) (lkv_s (by omega) (by assumption) C55 C67) (lkR_s (X := z57Z) (D := ((z69Z % 9) + 1)) (by omega) (by assumption) (by assumption) C55 C67 (by omega) (by omega) (by rw [← hcm]; exact z63G) (by omega) z74e z74E z76E (by omega) eh78) (by omega)
                ·
                  refine V_iload d_Mod_luck_122 rfl ?_
                  refine V_goto 134 d_Mod_luck_124 (by decide) ?_
                  refine N_iast sk_127 z63E (by omega) d_Mod_luck_134 (fun h82 eh82 => ?_)
                  have hI83 : Inv h82 := inv_full Ih22 eh82 rfl
                  have f84 : fr S_Mod_luckX h h82 := fr_put Fh22 eh82 rfl
                  obtain ⟨z85, z85E, z85e⟩ : ∃ y : Int32, y.toInt = v21Z + 1 ∧ y = v21 + Int32.ofInt 1 := ⟨_, ti_add v21E (by decide) (by omega), rfl⟩
                  refine V_iinc 4 [some (.ref 116), some (.int a), some (.int n), some (.int z66), some (.int z85), some (.int z63), some (.int z73)] d_Mod_luck_135 rfl z85e.symm (by decide) rfl rfl ?_
                  refine V_goto 48 d_Mod_luck_138 (by decide) ?_
                  refine V_drop 5 [some (.ref 116), some (.int a), some (.int n), some (.int z66), some (.int z85), none, some (.int z73)] rfl ?_
                  refine V_drop 6 [some (.ref 116), some (.int a), some (.int n), some (.int z66), some (.int z85), none, none] rfl ?_
                  exact ihL18 z66 z66Z z85 ((v21Z + 1)) h82 z66E z85E hI83 f84 (kn_ne eh82 K23 (by decide)) (kn_ne eh82 K24 (by decide)) (by omega) (lkv_s (by omega) (by assumption) C55 C67) (lkR_s (X := z57Z) (D := ((z69Z % 9) + 1)) (by omega) (by assumption) (by assumption) C55 C67 (by omega) (by omega) (by rw [← hcm]; exact z63G) (by omega) z74e z74E z73E (by omega) eh82) (by omega)
          exact L18 (Int.toNat ((nZ - 0 : Int) + 1)) a aZ 0 0 h11 aE tc_0 Ih11 Fh11 K12 K13 (by omega) rfl (lkR_m (by assumption) (by omega)) (by omega)
        ·
          refine V_aload_n 0 d_Mod_luck_22 rfl rfl ?_
          refine V_getR fa_Mod_41 sk_116 rfl d_Mod_luck_23 ?_
          refine V_iload_n 3 d_Mod_luck_26 rfl rfl ?_
          refine V_aload_n 0 d_Mod_luck_27 rfl rfl ?_
          refine V_getR fa_Mod_7 sk_116 rfl d_Mod_luck_28 ?_
          refine V_bipush 64 d_Mod_luck_31 (by decide) ?_
          refine V_iload_n 3 d_Mod_luck_33 rfl rfl ?_
          refine V_iadd tc_64 v10E (by omega) d_Mod_luck_34 (fun z86 z86e z86E => ?_)
          refine N_iald sk_117 z86E (by omega) d_Mod_luck_35 (fun z87 z87Z z87E z87e => ?_)
          refine N_iast sk_127 v10E (by omega) d_Mod_luck_36 (fun h88 eh88 => ?_)
          have hI89 : Inv h88 := inv_full Ih11 eh88 rfl
          have f90 : fr S_Mod_luckX h h88 := fr_put Fh11 eh88 rfl
          obtain ⟨z91, z91E, z91e⟩ : ∃ y : Int32, y.toInt = v10Z + 1 ∧ y = v10 + Int32.ofInt 1 := ⟨_, ti_add v10E (by decide) (by omega), rfl⟩
          refine V_iinc 3 [some (.ref 116), some (.int a), some (.int n), some (.int z91), none, none, none] d_Mod_luck_37 rfl z91e.symm (by decide) rfl rfl ?_
          refine V_goto 16 d_Mod_luck_40 (by decide) ?_
          exact ihL8 z91 ((v10Z + 1)) h88 z91E hI89 f90 (kn_ne eh88 K12 (by decide)) (kn_ne eh88 K13 (by decide)) (by omega) (lc0_s (by assumption) (by omega) eh88 (z87e.trans (Fh11.1 117 _ rfl))) (by omega)
    exact L8 (Int.toNat ((16 - 0 : Int) + 1)) 0 0 h tc_0 hI f0 wK gK (by omega) lc0_0 (by omega)
  ·
    refine V_iconst (-1) d_Mod_luck_12 (by decide) ?_
    exact V_iret rfl d_Mod_luck_13 ⟨(-1), rfl, ⟨hI, f0, (Or.inr ⟨by omega, tc_m1⟩)⟩⟩
