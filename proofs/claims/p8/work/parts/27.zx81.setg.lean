abbrev q_Land_isWellX_0 (h : Hp) (c : Int32) (cZ : Int) : Option Value → Hp → Prop := pInt (fun r h' => h = h' ∧ (r.toInt = 1 ∧ bW (h.1 2 cZ.toNat) (h.1 6 cZ.toNat) ∨ r.toInt = 0 ∧ ¬ bW (h.1 2 cZ.toNat) (h.1 6 cZ.toNat)))
set_option maxRecDepth 100000 in
theorem c_Land_isWellX_0 (h : Hp) (hI : Inv h) (c : Int32) (cZ : Int) (cE : c.toInt = cZ) (hy0 : 0 ≤ cZ ∧ cZ ≤ 15) : Ct y_Land_isWell b_Land_isWell 2 (some .boolean) 0 0 [.ref 1, .int c] h (q_Land_isWellX_0 h c cZ) := by
  refine ct_ow R_Land [some (.ref 1), some (.int c)] rfl (by decide) rfl (Nat.le_of_ble_eq_true rfl) ?_
  have f0 : fr [] h h := fr_rf
  obtain ⟨uv, uvZ, uvE, uvK⟩ : ∃ (y : Int32) (Y : Int), y.toInt = Y ∧ h.1 2 (cZ).toNat = y := ⟨_, _, rfl, rfl⟩
  obtain ⟨bv, bvZ, bvE, bvK⟩ : ∃ (y : Int32) (Y : Int), y.toInt = Y ∧ h.1 6 (cZ).toNat = y := ⟨_, _, rfl, rfl⟩
  refine V_aload_n 0 d_Land_isWell_0 rfl rfl ?_
  refine V_getR fa_Land_9 sk_1 rfl d_Land_isWell_1 ?_
  refine V_iload_n 1 d_Land_isWell_4 rfl rfl ?_
  refine N_ialdK sk_2 cE (by (first | decide +kernel | omega)) d_Land_isWell_5 uvK ?_
  refine V_if_le 28 uvE d_Land_isWell_6 (by decide) (fun c2 => ?_) (fun c2 => ?_)
  ·
    refine V_iconst 0 d_Land_isWell_28 (by decide) ?_
    exact V_zret rfl (by decide) d_Land_isWell_29 ⟨0, rfl, ⟨rfl, (by rw [uvK, bvK]; unfold bW; (try rw [show Int32.toInt 0 = 0 from rfl]); omega)⟩⟩
  ·
    refine V_aload_n 0 d_Land_isWell_9 rfl rfl ?_
    refine V_getR fa_Land_9 sk_1 rfl d_Land_isWell_10 ?_
    refine V_iload_n 1 d_Land_isWell_13 rfl rfl ?_
    refine N_ialdK sk_2 cE (by (first | decide +kernel | omega)) d_Land_isWell_14 uvK ?_
    refine V_aload_n 0 d_Land_isWell_15 rfl rfl ?_
    refine V_getR fa_Land_24 sk_1 rfl d_Land_isWell_16 ?_
    refine V_iload_n 1 d_Land_isWell_19 rfl rfl ?_
    refine N_ialdK sk_6 cE (by (first | decide +kernel | omega)) d_Land_isWell_20 bvK ?_
    refine V_icmp_gt 28 uvE bvE d_Land_isWell_21 (by decide) (fun c5 => ?_) (fun c5 => ?_)
    ·
      refine V_iconst 0 d_Land_isWell_28 (by decide) ?_
      exact V_zret rfl (by decide) d_Land_isWell_29 ⟨0, rfl, ⟨rfl, (by rw [uvK, bvK]; unfold bW; (try rw [show Int32.toInt 0 = 0 from rfl]); omega)⟩⟩
    ·
      refine V_iconst 1 d_Land_isWell_24 (by decide) ?_
      refine V_goto 29 d_Land_isWell_25 (by decide) ?_
      exact V_zret rfl (by decide) d_Land_isWell_29 ⟨1, rfl, ⟨rfl, (by rw [uvK, bvK]; unfold bW; (try rw [show Int32.toInt 1 = 1 from rfl]); omega)⟩⟩
abbrev q_Mod_isWellByX (h : Hp) (a : Int32) (aZ : Int) (b : Int32) (bZ : Int) : Option Value → Hp → Prop := pInt (fun r h' => h = h' ∧ (r.toInt = 1 ∧ 0 < aZ ∧ aZ ≤ bZ ∨ r.toInt = 0 ∧ (aZ ≤ 0 ∨ bZ < aZ)))
set_option maxRecDepth 100000 in
theorem c_Mod_isWellByX (h : Hp) (a : Int32) (aZ : Int) (aE : a.toInt = aZ) (b : Int32) (bZ : Int) (bE : b.toInt = bZ) : Ct y_Mod_isWellBy b_Mod_isWellBy 2 (some .boolean) 0 0 [.int a, .int b] h (q_Mod_isWellByX h a aZ b bZ) := by
  refine ct_ow R_Mod [some (.int a), some (.int b)] rfl (by decide) rfl (Nat.le_of_ble_eq_true rfl) ?_
  have f0 : fr [] h h := fr_rf
  refine V_iload_n 0 d_Mod_isWellBy_0 rfl rfl ?_
  refine V_if_le 13 aE d_Mod_isWellBy_1 (by decide) (fun c1 => ?_) (fun c1 => ?_)
  ·
    refine V_iconst 0 d_Mod_isWellBy_13 (by decide) ?_
    exact V_zret rfl (by decide) d_Mod_isWellBy_14 ⟨0, rfl, ⟨rfl, (by (try rw [show Int32.toInt 0 = 0 from rfl]) <;> omega)⟩⟩
  ·
    refine V_iload_n 0 d_Mod_isWellBy_4 rfl rfl ?_
    refine V_iload_n 1 d_Mod_isWellBy_5 rfl rfl ?_
    refine V_icmp_gt 13 aE bE d_Mod_isWellBy_6 (by decide) (fun c2 => ?_) (fun c2 => ?_)
    ·
      refine V_iconst 0 d_Mod_isWellBy_13 (by decide) ?_
      exact V_zret rfl (by decide) d_Mod_isWellBy_14 ⟨0, rfl, ⟨rfl, (by (try rw [show Int32.toInt 0 = 0 from rfl]) <;> omega)⟩⟩
    ·
      refine V_iconst 1 d_Mod_isWellBy_9 (by decide) ?_
      refine V_goto 14 d_Mod_isWellBy_10 (by decide) ?_
      exact V_zret rfl (by decide) d_Mod_isWellBy_14 ⟨1, rfl, ⟨rfl, (by (try rw [show Int32.toInt 1 = 1 from rfl]) <;> omega)⟩⟩
abbrev q_Mod_isWellX (h : Hp) (c : Int32) (cZ : Int) : Option Value → Hp → Prop := pInt (fun r h' => h = h' ∧ (r.toInt = 1 ∧ bW (h.1 117 (0 + cZ).toNat) (h.1 117 (64 + cZ).toNat) ∨ r.toInt = 0 ∧ ¬ bW (h.1 117 (0 + cZ).toNat) (h.1 117 (64 + cZ).toNat)))
set_option maxRecDepth 100000 in
theorem c_Mod_isWellX (h : Hp) (hI : Inv h) (c : Int32) (cZ : Int) (cE : c.toInt = cZ) (hy0 : 0 ≤ cZ ∧ cZ ≤ 15) : Ct y_Mod_isWell b_Mod_isWell 2 (some .boolean) 1 21 [.ref 116, .int c] h (q_Mod_isWellX h c cZ) := by
  refine ct_ow R_Mod [some (.ref 116), some (.int c)] rfl (by decide) rfl (Nat.le_of_ble_eq_true rfl) ?_
  have f0 : fr [] h h := fr_rf
  obtain ⟨uv, uvZ, uvE, uvK⟩ : ∃ (y : Int32) (Y : Int), y.toInt = Y ∧ h.1 117 ((0 + cZ)).toNat = y := ⟨_, _, rfl, rfl⟩
  obtain ⟨bv, bvZ, bvE, bvK⟩ : ∃ (y : Int32) (Y : Int), y.toInt = Y ∧ h.1 117 ((64 + cZ)).toNat = y := ⟨_, _, rfl, rfl⟩
  refine V_aload_n 0 d_Mod_isWell_0 rfl rfl ?_
  refine V_getR fa_Mod_7 sk_116 rfl d_Mod_isWell_1 ?_
  refine V_iconst 0 d_Mod_isWell_4 (by decide) ?_
  refine V_iload_n 1 d_Mod_isWell_5 rfl rfl ?_
  refine V_iadd tc_0 cE (by (first | decide +kernel | omega)) d_Mod_isWell_6 (fun z1 z1e z1E => ?_)
  refine N_ialdK sk_117 z1E (by (first | decide +kernel | omega)) d_Mod_isWell_7 uvK ?_
  refine V_aload_n 0 d_Mod_isWell_8 rfl rfl ?_
  refine V_getR fa_Mod_7 sk_116 rfl d_Mod_isWell_9 ?_
  refine V_bipush 64 d_Mod_isWell_12 (by decide) ?_
  refine V_iload_n 1 d_Mod_isWell_14 rfl rfl ?_
  refine V_iadd tc_64 cE (by (first | decide +kernel | omega)) d_Mod_isWell_15 (fun z3 z3e z3E => ?_)
  refine N_ialdK sk_117 z3E (by (first | decide +kernel | omega)) d_Mod_isWell_16 bvK ?_
  refine N_callSI [.int uv, .int bv] [] cs_Mod_188 d_Mod_isWell_17 rfl (Nat.le_of_ble_eq_true rfl) (by decide) (by decide) (c_Mod_isWellByX h uv uvZ uvE bv bvZ bvE) (fun z5 h6 z5Z z5E p7 => ?_)
  obtain ⟨eh6, p7⟩ := p7
  subst eh6
  exact V_zret rfl (by rw [z5E]; omega) d_Mod_isWell_20 ⟨z5, rfl, ⟨rfl, (by rw [uvK, bvK]; unfold bW; omega)⟩⟩
def S_County_boreByX_0 : List (Nat × Option Nat) := [(8, none), (6, none)]
abbrev q_County_boreByX_0 (h : Hp) (o : Int32) (oZ : Int) (c : Int32) (cZ : Int) (d : Int32) (dZ : Int) (w : Int32) (wZ : Int) (g : Int32) (gZ : Int) (x : Int32) (xZ : Int) (y : Int32) (yZ : Int) : Option Value → Hp → Prop := pInt (fun r h' => Inv h' ∧ fr S_County_boreByX_0 h h' ∧ (BE h h' 8 oZ.toNat 6 cZ.toNat (0 ≤ oZ ∧ oZ ≤ 3 ∧ 0 ≤ cZ ∧ cZ < wZ * gZ ∧ 1 ≤ dZ ∧ dZ ≤ 9) (h.1 5 cZ.toNat) o (h.1 8 oZ.toNat) (h.1 6 cZ.toNat) (h.1 2 cZ.toNat) (h.1 1 2) (h.1 1 3) d r))
set_option maxRecDepth 100000 in
theorem c_County_boreByX_0 (h : Hp) (hI : Inv h) (o : Int32) (oZ : Int) (oE : o.toInt = oZ) (c : Int32) (cZ : Int) (cE : c.toInt = cZ) (d : Int32) (dZ : Int) (dE : d.toInt = dZ) (w : Int32) (wZ : Int) (wE : w.toInt = wZ) (wK : h.1 1 0 = w) (g : Int32) (gZ : Int) (gE : g.toInt = gZ) (gK : h.1 1 1 = g) (x : Int32) (xZ : Int) (xE : x.toInt = xZ) (xK : h.1 1 2 = x) (y : Int32) (yZ : Int) (yE : y.toInt = yZ) (yK : h.1 1 3 = y) : Ct y_County_boreBy b_County_boreBy 9 (some .int) 2 41 [.ref 0, .int o, .int c, .int d] h (q_County_boreByX_0 h o oZ c cZ d dZ w wZ g gZ x xZ y yZ) := by
  refine ct_ow R_County [some (.ref 0), some (.int o), some (.int c), some (.int d), none, none, none, none, none] rfl (by decide) rfl (Nat.le_of_ble_eq_true rfl) ?_
  have f0 : fr S_County_boreByX_0 h h := fr_rf
  have g1 : 2 ≤ wZ ∧ wZ ≤ 4 := inv_at hI wE wK.symm rfl
  have g2 : 2 ≤ gZ ∧ gZ ≤ 4 := inv_at hI gE gK.symm rfl
  obtain ⟨uv, uvZ, uvE, uvK⟩ : ∃ (y : Int32) (Y : Int), y.toInt = Y ∧ h.1 2 (cZ).toNat = y := ⟨_, _, rfl, rfl⟩
  obtain ⟨bv, bvZ, bvE, bvK⟩ : ∃ (y : Int32) (Y : Int), y.toInt = Y ∧ h.1 6 (cZ).toNat = y := ⟨_, _, rfl, rfl⟩
  obtain ⟨lv, lvZ, lvE, lvK⟩ : ∃ (y : Int32) (Y : Int), y.toInt = Y ∧ h.1 5 (cZ).toNat = y := ⟨_, _, rfl, rfl⟩
  obtain ⟨pv, pvZ, pvE, pvK⟩ : ∃ (y : Int32) (Y : Int), y.toInt = Y ∧ h.1 8 (oZ).toNat = y := ⟨_, _, rfl, rfl⟩
  refine V_iload_n 1 d_County_boreBy_0 rfl rfl ?_
  refine N_callSI [.int o] [] cs_County_79 d_County_boreBy_1 rfl (Nat.le_of_ble_eq_true rfl) (by decide) (by decide) (c_Rod_isOwner h o oZ oE) (fun z3 h4 z3Z z3E p5 => ?_)
  obtain ⟨eh4, p5⟩ := p5
  subst eh4
  refine V_if_eq 25 z3E d_County_boreBy_4 (by decide) (fun c6 => ?_) (fun c6 => ?_)
  ·
    replace p5 := p5.resolve_left (fun q => by (first | decide +kernel | omega))
    refine V_iconst (-1) d_County_boreBy_25 (by decide) ?_
    exact V_iret rfl d_County_boreBy_26 ⟨(-1), rfl, ⟨hI, f0, (Or.inl ⟨by (first | decide +kernel | omega), rfl, tc_m1⟩)⟩⟩
  ·
    replace p5 := p5.resolve_right (fun q => by (first | decide +kernel | omega))
    refine V_aload_n 0 d_County_boreBy_7 rfl rfl ?_
    refine V_getR fa_County_12 sk_0 rfl d_County_boreBy_8 ?_
    refine V_iload_n 2 d_County_boreBy_11 rfl rfl ?_
    refine N_callVI [.int c] [] cv_County_83 sk_1 rfl d_County_boreBy_12 rfl (Nat.le_of_ble_eq_true rfl) (by decide) (by decide) (c_Land_hasX_0 h hI c cZ cE w wZ wE wK g gZ gE gK) (fun z7 h8 z7Z z7E p9 => ?_)
    obtain ⟨eh8, p9⟩ := p9
    subst eh8
    refine V_if_eq 25 z7E d_County_boreBy_15 (by decide) (fun c10 => ?_) (fun c10 => ?_)
    ·
      replace p9 := p9.resolve_left (fun q => by (first | decide +kernel | omega))
      refine V_iconst (-1) d_County_boreBy_25 (by decide) ?_
      exact V_iret rfl d_County_boreBy_26 ⟨(-1), rfl, ⟨hI, f0, (Or.inl ⟨by (first | decide +kernel | omega), rfl, tc_m1⟩)⟩⟩
    ·
      replace p9 := p9.resolve_right (fun q => by (first | decide +kernel | omega))
      refine V_iload_n 3 d_County_boreBy_18 rfl rfl ?_
      refine N_callSI [.int d] [] cs_County_86 d_County_boreBy_19 rfl (Nat.le_of_ble_eq_true rfl) (by decide) (by decide) (c_Rod_isDepth h d dZ dE) (fun z11 h12 z11Z z11E p13 => ?_)
      obtain ⟨eh12, p13⟩ := p13
      subst eh12
      refine V_if_ne 27 z11E d_County_boreBy_22 (by decide) (fun c14 => ?_) (fun c14 => ?_)
      ·
        replace p13 := p13.resolve_right (fun q => by (first | decide +kernel | omega))
        refine V_aload_n 0 d_County_boreBy_27 rfl rfl ?_
        refine V_getR fa_County_12 sk_0 rfl d_County_boreBy_28 ?_
        refine V_getR fa_County_89 sk_1 rfl d_County_boreBy_31 ?_
        refine V_iload_n 2 d_County_boreBy_34 rfl rfl ?_
        refine N_ialdK sk_5 cE (by (first | decide +kernel | omega)) d_County_boreBy_35 lvK ?_
        refine V_iload_n 1 d_County_boreBy_36 rfl rfl ?_
        refine V_icmp_eq 43 lvE oE d_County_boreBy_37 (by decide) (fun c16 => ?_) (fun c16 => ?_)
        ·
          refine V_aload_n 0 d_County_boreBy_43 rfl rfl ?_
          refine V_getR fa_County_12 sk_0 rfl d_County_boreBy_44 ?_
          refine V_iload_n 2 d_County_boreBy_47 rfl rfl ?_
          refine N_callVI [.int c] [] cv_County_92 sk_1 rfl d_County_boreBy_48 rfl (Nat.le_of_ble_eq_true rfl) (by decide) (by decide) (c_Land_isWellX_0 h hI c cZ cE (by (first | decide +kernel | omega))) (fun z17 h18 z17Z z17E p19 => ?_)
          obtain ⟨eh18, p19⟩ := p19
          subst eh18
          rw [uvK, bvK] at p19
          unfold bW at p19
          refine V_istore 4 [some (.ref 0), some (.int o), some (.int c), some (.int d), some (.int z17), none, none, none, none] d_County_boreBy_51 (by decide) rfl rfl ?_
          refine V_aload_n 0 d_County_boreBy_53 rfl rfl ?_
          refine V_getR fa_County_12 sk_0 rfl d_County_boreBy_54 ?_
          refine V_getR fa_County_95 sk_1 rfl d_County_boreBy_57 ?_
          refine V_iload_n 2 d_County_boreBy_60 rfl rfl ?_
          refine N_ialdK sk_6 cE (by (first | decide +kernel | omega)) d_County_boreBy_61 bvK ?_
          refine V_iload_n 3 d_County_boreBy_62 rfl rfl ?_
          refine N_max bvE dE wm_County_98 d_County_boreBy_63 (Nat.le_of_ble_eq_true rfl) (by decide) wmax1 wM2 wmax3 (fun z21 z21Z z21E z21e z21g => ?_)
          have hdp : z21 = bD bv d := bD_max bvE dE z21E z21g
          refine V_istore 5 [some (.ref 0), some (.int o), some (.int c), some (.int d), some (.int z17), some (.int z21), none, none, none] d_County_boreBy_66 (by decide) rfl rfl ?_
          refine V_iload d_County_boreBy_68 rfl ?_
          refine V_if_ne 103 z17E d_County_boreBy_70 (by decide) (fun c22 => ?_) (fun c22 => ?_)
          ·
            replace p19 := p19.resolve_right (fun q => by (first | decide +kernel | omega))
            refine V_iconst 0 d_County_boreBy_103 (by decide) ?_
            refine V_istore 6 [some (.ref 0), some (.int o), some (.int c), some (.int d), some (.int z17), some (.int z21), some (.int 0), none, none] d_County_boreBy_104 (by decide) rfl rfl ?_
            refine V_aload_n 0 d_County_boreBy_106 rfl rfl ?_
            refine V_getR fa_County_21 sk_0 rfl d_County_boreBy_107 ?_
            refine V_getR fa_County_107 sk_7 rfl d_County_boreBy_110 ?_
            refine V_iload_n 1 d_County_boreBy_113 rfl rfl ?_
            refine N_ialdK sk_8 oE (by (first | decide +kernel | omega)) d_County_boreBy_114 pvK ?_
            refine V_aload_n 0 d_County_boreBy_115 rfl rfl ?_
            refine V_getR fa_County_12 sk_0 rfl d_County_boreBy_116 ?_
            refine N_getK fa_County_110 sk_1 rfl d_County_boreBy_119 xK ?_
            refine V_iload d_County_boreBy_122 rfl ?_
            refine V_aload_n 0 d_County_boreBy_124 rfl rfl ?_
            refine V_getR fa_County_12 sk_0 rfl d_County_boreBy_125 ?_
            refine V_getR fa_County_95 sk_1 rfl d_County_boreBy_128 ?_
            refine V_iload_n 2 d_County_boreBy_131 rfl rfl ?_
            refine N_ialdK sk_6 cE (by (first | decide +kernel | omega)) d_County_boreBy_132 bvK ?_
            refine N_isubw d_County_boreBy_133 (fun z25 z25Z z25E z25e => ?_)
            refine N_imulw d_County_boreBy_134 (fun z26 z26Z z26E z26e => ?_)
            refine N_isubw d_County_boreBy_135 (fun z27 z27Z z27E z27e => ?_)
            refine V_istore 7 [some (.ref 0), some (.int o), some (.int c), some (.int d), some (.int z17), some (.int z21), some (.int 0), some (.int z27), none] d_County_boreBy_136 (by decide) rfl rfl ?_
            refine V_iload d_County_boreBy_138 rfl ?_
            refine V_if_eq 156 tc_0 d_County_boreBy_140 (by decide) (fun c28 => ?_) (fun c28 => ?_)
            ·
              refine V_iload d_County_boreBy_156 rfl ?_
              refine V_istore 8 [some (.ref 0), some (.int o), some (.int c), some (.int d), some (.int z17), some (.int z21), some (.int 0), some (.int z27), some (.int z27)] d_County_boreBy_158 (by decide) rfl rfl ?_
              refine V_iload d_County_boreBy_160 rfl ?_
              refine V_if_lt 173 z27E d_County_boreBy_162 (by decide) (fun c29 => ?_) (fun c29 => ?_)
              ·
                refine V_bipush (-2) d_County_boreBy_173 (by decide) ?_
                exact V_iret rfl d_County_boreBy_175 ⟨(-2), rfl, ⟨hI, f0, (by rw [lvK, pvK, bvK, uvK, xK, yK]; exact BE_of (by (first | decide +kernel | omega)) lvE oE z27E z27E hdp (bM_dp hdp z25e) z26e z27e (Or.inr ⟨by unfold bW; omega, rfl⟩) (Or.inl ⟨by (first | decide +kernel | omega), rfl, tc_m2⟩))⟩⟩
              ·
                refine V_iload d_County_boreBy_165 rfl ?_
                refine V_sipush 999 d_County_boreBy_167 (by decide) ?_
                refine V_icmp_le 176 z27E tc_999 d_County_boreBy_170 (by decide) (fun c30 => ?_) (fun c30 => ?_)
                ·
                  refine V_aload_n 0 d_County_boreBy_176 rfl rfl ?_
                  refine V_getR fa_County_21 sk_0 rfl d_County_boreBy_177 ?_
                  refine V_getR fa_County_107 sk_7 rfl d_County_boreBy_180 ?_
                  refine V_iload_n 1 d_County_boreBy_183 rfl rfl ?_
                  refine V_iload d_County_boreBy_184 rfl ?_
                  refine N_iast sk_8 oE (by (first | decide +kernel | omega)) d_County_boreBy_186 (fun h31 eh31 => ?_)
                  have hI32 : Inv h31 := inv_full hI eh31 rfl
                  have f33 : fr S_County_boreByX_0 h h31 := fr_put f0 eh31 rfl
                  refine V_aload_n 0 d_County_boreBy_187 rfl rfl ?_
                  refine V_getR fa_County_12 sk_0 rfl d_County_boreBy_188 ?_
                  refine V_getR fa_County_95 sk_1 rfl d_County_boreBy_191 ?_
                  refine V_iload_n 2 d_County_boreBy_194 rfl rfl ?_
                  refine V_iload d_County_boreBy_195 rfl ?_
                  refine N_iast sk_6 cE (by (first | decide +kernel | omega)) d_County_boreBy_197 (fun h34 eh34 => ?_)
                  have hI35 : Inv h34 := inv_full hI32 eh34 rfl
                  have f36 : fr S_County_boreByX_0 h h34 := fr_put f33 eh34 rfl
                  refine V_iload d_County_boreBy_198 rfl ?_
                  refine V_if_ne 208 z17E d_County_boreBy_200 (by decide) (fun c37 => ?_) (fun c37 => ?_)
                  ·
                    refine V_iconst 1 d_County_boreBy_208 (by decide) ?_
                    refine V_goto 213 d_County_boreBy_209 (by decide) ?_
                    refine N_callSI [.int 1] [] cs_County_116 d_County_boreBy_213 rfl (Nat.le_of_ble_eq_true rfl) (by decide) (by decide) (c_Rod_oneIf h34 1 1 tc_1) (fun z38 h39 z38Z z38E p40 => ?_)
                    obtain ⟨eh39, p40⟩ := p40
                    subst eh39
                    exact V_iret rfl d_County_boreBy_216 ⟨z38, rfl, ⟨hI35, f36, (by rw [lvK, pvK, bvK, uvK, xK, yK]; exact BE_of (by (first | decide +kernel | omega)) lvE oE z27E z27E hdp (bM_dp hdp z25e) z26e z27e (Or.inr ⟨by unfold bW; omega, rfl⟩) (Or.inr ⟨by (first | decide +kernel | omega), (by rw [eh34, eh31] <;> rfl), by unfold bW; omega⟩))⟩⟩
                  ·
                    refine V_iload d_County_boreBy_203 rfl ?_
                    refine V_if_eq 212 tc_0 d_County_boreBy_205 (by decide) (fun c41 => ?_) (fun c41 => ?_)
                    ·
                      refine V_iconst 0 d_County_boreBy_212 (by decide) ?_
                      refine N_callSI [.int 0] [] cs_County_116 d_County_boreBy_213 rfl (Nat.le_of_ble_eq_true rfl) (by decide) (by decide) (c_Rod_oneIf h34 0 0 tc_0) (fun z42 h43 z42Z z42E p44 => ?_)
                      obtain ⟨eh43, p44⟩ := p44
                      subst eh43
                      exact V_iret rfl d_County_boreBy_216 ⟨z42, rfl, ⟨hI35, f36, (by rw [lvK, pvK, bvK, uvK, xK, yK]; exact BE_of (by (first | decide +kernel | omega)) lvE oE z27E z27E hdp (bM_dp hdp z25e) z26e z27e (Or.inr ⟨by unfold bW; omega, rfl⟩) (Or.inr ⟨by (first | decide +kernel | omega), (by rw [eh34, eh31] <;> rfl), by unfold bW; omega⟩))⟩⟩
                    ·
                      exact absurd c41 (by decide)
                ·
                  refine V_bipush (-2) d_County_boreBy_173 (by decide) ?_
                  exact V_iret rfl d_County_boreBy_175 ⟨(-2), rfl, ⟨hI, f0, (by rw [lvK, pvK, bvK, uvK, xK, yK]; exact BE_of (by (first | decide +kernel | omega)) lvE oE z27E z27E hdp (bM_dp hdp z25e) z26e z27e (Or.inr ⟨by unfold bW; omega, rfl⟩) (Or.inl ⟨by (first | decide +kernel | omega), rfl, tc_m2⟩))⟩⟩
            ·
              exact absurd c28 (by decide)
          ·
            replace p19 := p19.resolve_left (fun q => by (first | decide +kernel | omega))
            refine V_aload_n 0 d_County_boreBy_73 rfl rfl ?_
            refine V_getR fa_County_12 sk_0 rfl d_County_boreBy_74 ?_
            refine V_getR fa_County_104 sk_1 rfl d_County_boreBy_77 ?_
            refine V_iload_n 2 d_County_boreBy_80 rfl rfl ?_
            refine N_ialdK sk_2 cE (by (first | decide +kernel | omega)) d_County_boreBy_81 uvK ?_
            refine V_if_le 103 uvE d_County_boreBy_82 (by decide) (fun c46 => ?_) (fun c46 => ?_)
            ·
              refine V_iconst 0 d_County_boreBy_103 (by decide) ?_
              refine V_istore 6 [some (.ref 0), some (.int o), some (.int c), some (.int d), some (.int z17), some (.int z21), some (.int 0), none, none] d_County_boreBy_104 (by decide) rfl rfl ?_
              refine V_aload_n 0 d_County_boreBy_106 rfl rfl ?_
              refine V_getR fa_County_21 sk_0 rfl d_County_boreBy_107 ?_
              refine V_getR fa_County_107 sk_7 rfl d_County_boreBy_110 ?_
              refine V_iload_n 1 d_County_boreBy_113 rfl rfl ?_
              refine N_ialdK sk_8 oE (by (first | decide +kernel | omega)) d_County_boreBy_114 pvK ?_
              refine V_aload_n 0 d_County_boreBy_115 rfl rfl ?_
              refine V_getR fa_County_12 sk_0 rfl d_County_boreBy_116 ?_
              refine N_getK fa_County_110 sk_1 rfl d_County_boreBy_119 xK ?_
              refine V_iload d_County_boreBy_122 rfl ?_
              refine V_aload_n 0 d_County_boreBy_124 rfl rfl ?_
              refine V_getR fa_County_12 sk_0 rfl d_County_boreBy_125 ?_
              refine V_getR fa_County_95 sk_1 rfl d_County_boreBy_128 ?_
              refine V_iload_n 2 d_County_boreBy_131 rfl rfl ?_
              refine N_ialdK sk_6 cE (by (first | decide +kernel | omega)) d_County_boreBy_132 bvK ?_
              refine N_isubw d_County_boreBy_133 (fun z49 z49Z z49E z49e => ?_)
              refine N_imulw d_County_boreBy_134 (fun z50 z50Z z50E z50e => ?_)
              refine N_isubw d_County_boreBy_135 (fun z51 z51Z z51E z51e => ?_)
              refine V_istore 7 [some (.ref 0), some (.int o), some (.int c), some (.int d), some (.int z17), some (.int z21), some (.int 0), some (.int z51), none] d_County_boreBy_136 (by decide) rfl rfl ?_
              refine V_iload d_County_boreBy_138 rfl ?_
              refine V_if_eq 156 tc_0 d_County_boreBy_140 (by decide) (fun c52 => ?_) (fun c52 => ?_)
              ·
                refine V_iload d_County_boreBy_156 rfl ?_
                refine V_istore 8 [some (.ref 0), some (.int o), some (.int c), some (.int d), some (.int z17), some (.int z21), some (.int 0), some (.int z51), some (.int z51)] d_County_boreBy_158 (by decide) rfl rfl ?_
                refine V_iload d_County_boreBy_160 rfl ?_
                refine V_if_lt 173 z51E d_County_boreBy_162 (by decide) (fun c53 => ?_) (fun c53 => ?_)
                ·
                  refine V_bipush (-2) d_County_boreBy_173 (by decide) ?_
                  exact V_iret rfl d_County_boreBy_175 ⟨(-2), rfl, ⟨hI, f0, (by rw [lvK, pvK, bvK, uvK, xK, yK]; exact BE_of (by (first | decide +kernel | omega)) lvE oE z51E z51E hdp (bM_dp hdp z49e) z50e z51e (Or.inr ⟨by unfold bW; omega, rfl⟩) (Or.inl ⟨by (first | decide +kernel | omega), rfl, tc_m2⟩))⟩⟩
                ·
                  refine V_iload d_County_boreBy_165 rfl ?_
                  refine V_sipush 999 d_County_boreBy_167 (by decide) ?_
                  refine V_icmp_le 176 z51E tc_999 d_County_boreBy_170 (by decide) (fun c54 => ?_) (fun c54 => ?_)
                  ·
                    refine V_aload_n 0 d_County_boreBy_176 rfl rfl ?_
                    refine V_getR fa_County_21 sk_0 rfl d_County_boreBy_177 ?_
                    refine V_getR fa_County_107 sk_7 rfl d_County_boreBy_180 ?_
                    refine V_iload_n 1 d_County_boreBy_183 rfl rfl ?_
                    refine V_iload d_County_boreBy_184 rfl ?_
                    refine N_iast sk_8 oE (by (first | decide +kernel | omega)) d_County_boreBy_186 (fun h55 eh55 => ?_)
                    have hI56 : Inv h55 := inv_full hI eh55 rfl
                    have f57 : fr S_County_boreByX_0 h h55 := fr_put f0 eh55 rfl
                    refine V_aload_n 0 d_County_boreBy_187 rfl rfl ?_
                    refine V_getR fa_County_12 sk_0 rfl d_County_boreBy_188 ?_
                    refine V_getR fa_County_95 sk_1 rfl d_County_boreBy_191 ?_
                    refine V_iload_n 2 d_County_boreBy_194 rfl rfl ?_
                    refine V_iload d_County_boreBy_195 rfl ?_
                    refine N_iast sk_6 cE (by (first | decide +kernel | omega)) d_County_boreBy_197 (fun h58 eh58 => ?_)
                    have hI59 : Inv h58 := inv_full hI56 eh58 rfl
                    have f60 : fr S_County_boreByX_0 h h58 := fr_put f57 eh58 rfl
                    refine V_iload d_County_boreBy_198 rfl ?_
                    refine V_if_ne 208 z17E d_County_boreBy_200 (by decide) (fun c61 => ?_) (fun c61 => ?_)
                    ·
                      refine V_iconst 1 d_County_boreBy_208 (by decide) ?_
                      refine V_goto 213 d_County_boreBy_209 (by decide) ?_
                      refine N_callSI [.int 1] [] cs_County_116 d_County_boreBy_213 rfl (Nat.le_of_ble_eq_true rfl) (by decide) (by decide) (c_Rod_oneIf h58 1 1 tc_1) (fun z62 h63 z62Z z62E p64 => ?_)
                      obtain ⟨eh63, p64⟩ := p64
                      subst eh63
                      exact V_iret rfl d_County_boreBy_216 ⟨z62, rfl, ⟨hI59, f60, (by rw [lvK, pvK, bvK, uvK, xK, yK]; exact BE_of (by (first | decide +kernel | omega)) lvE oE z51E z51E hdp (bM_dp hdp z49e) z50e z51e (Or.inr ⟨by unfold bW; omega, rfl⟩) (Or.inr ⟨by (first | decide +kernel | omega), (by rw [eh58, eh55] <;> rfl), by unfold bW; omega⟩))⟩⟩
                    ·
                      refine V_iload d_County_boreBy_203 rfl ?_
                      refine V_if_eq 212 tc_0 d_County_boreBy_205 (by decide) (fun c65 => ?_) (fun c65 => ?_)
                      ·
                        refine V_iconst 0 d_County_boreBy_212 (by decide) ?_
                        refine N_callSI [.int 0] [] cs_County_116 d_County_boreBy_213 rfl (Nat.le_of_ble_eq_true rfl) (by decide) (by decide) (c_Rod_oneIf h58 0 0 tc_0) (fun z66 h67 z66Z z66E p68 => ?_)
                        obtain ⟨eh67, p68⟩ := p68
                        subst eh67
                        exact V_iret rfl d_County_boreBy_216 ⟨z66, rfl, ⟨hI59, f60, (by rw [lvK, pvK, bvK, uvK, xK, yK]; exact BE_of (by (first | decide +kernel | omega)) lvE oE z51E z51E hdp (bM_dp hdp z49e) z50e z51e (Or.inr ⟨by unfold bW; omega, rfl⟩) (Or.inr ⟨by (first | decide +kernel | omega), (by rw [eh58, eh55] <;> rfl), by unfold bW; omega⟩))⟩⟩
                      ·
                        exact absurd c65 (by decide)
                  ·
                    refine V_bipush (-2) d_County_boreBy_173 (by decide) ?_
                    exact V_iret rfl d_County_boreBy_175 ⟨(-2), rfl, ⟨hI, f0, (by rw [lvK, pvK, bvK, uvK, xK, yK]; exact BE_of (by (first | decide +kernel | omega)) lvE oE z51E z51E hdp (bM_dp hdp z49e) z50e z51e (Or.inr ⟨by unfold bW; omega, rfl⟩) (Or.inl ⟨by (first | decide +kernel | omega), rfl, tc_m2⟩))⟩⟩
              ·
                exact absurd c52 (by decide)
            ·
              refine V_aload_n 0 d_County_boreBy_85 rfl rfl ?_
              refine V_getR fa_County_12 sk_0 rfl d_County_boreBy_86 ?_
              refine V_getR fa_County_104 sk_1 rfl d_County_boreBy_89 ?_
              refine V_iload_n 2 d_County_boreBy_92 rfl rfl ?_
              refine N_ialdK sk_2 cE (by (first | decide +kernel | omega)) d_County_boreBy_93 uvK ?_
              refine V_iload d_County_boreBy_94 rfl ?_
              refine V_icmp_gt 103 uvE z21E d_County_boreBy_96 (by decide) (fun c70 => ?_) (fun c70 => ?_)
              ·
                refine V_iconst 0 d_County_boreBy_103 (by decide) ?_
                refine V_istore 6 [some (.ref 0), some (.int o), some (.int c), some (.int d), some (.int z17), some (.int z21), some (.int 0), none, none] d_County_boreBy_104 (by decide) rfl rfl ?_
                refine V_aload_n 0 d_County_boreBy_106 rfl rfl ?_
                refine V_getR fa_County_21 sk_0 rfl d_County_boreBy_107 ?_
                refine V_getR fa_County_107 sk_7 rfl d_County_boreBy_110 ?_
                refine V_iload_n 1 d_County_boreBy_113 rfl rfl ?_
                refine N_ialdK sk_8 oE (by (first | decide +kernel | omega)) d_County_boreBy_114 pvK ?_
                refine V_aload_n 0 d_County_boreBy_115 rfl rfl ?_
                refine V_getR fa_County_12 sk_0 rfl d_County_boreBy_116 ?_
                refine N_getK fa_County_110 sk_1 rfl d_County_boreBy_119 xK ?_
                refine V_iload d_County_boreBy_122 rfl ?_
                refine V_aload_n 0 d_County_boreBy_124 rfl rfl ?_
                refine V_getR fa_County_12 sk_0 rfl d_County_boreBy_125 ?_
                refine V_getR fa_County_95 sk_1 rfl d_County_boreBy_128 ?_
                refine V_iload_n 2 d_County_boreBy_131 rfl rfl ?_
                refine N_ialdK sk_6 cE (by (first | decide +kernel | omega)) d_County_boreBy_132 bvK ?_
                refine N_isubw d_County_boreBy_133 (fun z73 z73Z z73E z73e => ?_)
                refine N_imulw d_County_boreBy_134 (fun z74 z74Z z74E z74e => ?_)
                refine N_isubw d_County_boreBy_135 (fun z75 z75Z z75E z75e => ?_)
                refine V_istore 7 [some (.ref 0), some (.int o), some (.int c), some (.int d), some (.int z17), some (.int z21), some (.int 0), some (.int z75), none] d_County_boreBy_136 (by decide) rfl rfl ?_
                refine V_iload d_County_boreBy_138 rfl ?_
                refine V_if_eq 156 tc_0 d_County_boreBy_140 (by decide) (fun c76 => ?_) (fun c76 => ?_)
                ·
                  refine V_iload d_County_boreBy_156 rfl ?_
                  refine V_istore 8 [some (.ref 0), some (.int o), some (.int c), some (.int d), some (.int z17), some (.int z21), some (.int 0), some (.int z75), some (.int z75)] d_County_boreBy_158 (by decide) rfl rfl ?_
                  refine V_iload d_County_boreBy_160 rfl ?_
                  refine V_if_lt 173 z75E d_County_boreBy_162 (by decide) (fun c77 => ?_) (fun c77 => ?_)
                  ·
                    refine V_bipush (-2) d_County_boreBy_173 (by decide) ?_
                    exact V_iret rfl d_County_boreBy_175 ⟨(-2), rfl, ⟨hI, f0, (by rw [lvK, pvK, bvK, uvK, xK, yK]; exact BE_of (by (first | decide +kernel | omega)) lvE oE z75E z75E hdp (bM_dp hdp z73e) z74e z75e (Or.inr ⟨by unfold bW; omega, rfl⟩) (Or.inl ⟨by (first | decide +kernel | omega), rfl, tc_m2⟩))⟩⟩
                  ·
                    refine V_iload d_County_boreBy_165 rfl ?_
                    refine V_sipush 999 d_County_boreBy_167 (by decide) ?_
                    refine V_icmp_le 176 z75E tc_999 d_County_boreBy_170 (by decide) (fun c78 => ?_) (fun c78 => ?_)
                    ·
                      refine V_aload_n 0 d_County_boreBy_176 rfl rfl ?_
                      refine V_getR fa_County_21 sk_0 rfl d_County_boreBy_177 ?_
                      refine V_getR fa_County_107 sk_7 rfl d_County_boreBy_180 ?_
                      refine V_iload_n 1 d_County_boreBy_183 rfl rfl ?_
                      refine V_iload d_County_boreBy_184 rfl ?_
                      refine N_iast sk_8 oE (by (first | decide +kernel | omega)) d_County_boreBy_186 (fun h79 eh79 => ?_)
                      have hI80 : Inv h79 := inv_full hI eh79 rfl
                      have f81 : fr S_County_boreByX_0 h h79 := fr_put f0 eh79 rfl
                      refine V_aload_n 0 d_County_boreBy_187 rfl rfl ?_
                      refine V_getR fa_County_12 sk_0 rfl d_County_boreBy_188 ?_
                      refine V_getR fa_County_95 sk_1 rfl d_County_boreBy_191 ?_
                      refine V_iload_n 2 d_County_boreBy_194 rfl rfl ?_
                      refine V_iload d_County_boreBy_195 rfl ?_
                      refine N_iast sk_6 cE (by (first | decide +kernel | omega)) d_County_boreBy_197 (fun h82 eh82 => ?_)
                      have hI83 : Inv h82 := inv_full hI80 eh82 rfl
                      have f84 : fr S_County_boreByX_0 h h82 := fr_put f81 eh82 rfl
                      refine V_iload d_County_boreBy_198 rfl ?_
                      refine V_if_ne 208 z17E d_County_boreBy_200 (by decide) (fun c85 => ?_) (fun c85 => ?_)
                      ·
                        refine V_iconst 1 d_County_boreBy_208 (by decide) ?_
                        refine V_goto 213 d_County_boreBy_209 (by decide) ?_
                        refine N_callSI [.int 1] [] cs_County_116 d_County_boreBy_213 rfl (Nat.le_of_ble_eq_true rfl) (by decide) (by decide) (c_Rod_oneIf h82 1 1 tc_1) (fun z86 h87 z86Z z86E p88 => ?_)
                        obtain ⟨eh87, p88⟩ := p88
                        subst eh87
                        exact V_iret rfl d_County_boreBy_216 ⟨z86, rfl, ⟨hI83, f84, (by rw [lvK, pvK, bvK, uvK, xK, yK]; exact BE_of (by (first | decide +kernel | omega)) lvE oE z75E z75E hdp (bM_dp hdp z73e) z74e z75e (Or.inr ⟨by unfold bW; omega, rfl⟩) (Or.inr ⟨by (first | decide +kernel | omega), (by rw [eh82, eh79] <;> rfl), by unfold bW; omega⟩))⟩⟩
                      ·
                        refine V_iload d_County_boreBy_203 rfl ?_
                        refine V_if_eq 212 tc_0 d_County_boreBy_205 (by decide) (fun c89 => ?_) (fun c89 => ?_)
                        ·
                          refine V_iconst 0 d_County_boreBy_212 (by decide) ?_
                          refine N_callSI [.int 0] [] cs_County_116 d_County_boreBy_213 rfl (Nat.le_of_ble_eq_true rfl) (by decide) (by decide) (c_Rod_oneIf h82 0 0 tc_0) (fun z90 h91 z90Z z90E p92 => ?_)
                          obtain ⟨eh91, p92⟩ := p92
                          subst eh91
                          exact V_iret rfl d_County_boreBy_216 ⟨z90, rfl, ⟨hI83, f84, (by rw [lvK, pvK, bvK, uvK, xK, yK]; exact BE_of (by (first | decide +kernel | omega)) lvE oE z75E z75E hdp (bM_dp hdp z73e) z74e z75e (Or.inr ⟨by unfold bW; omega, rfl⟩) (Or.inr ⟨by (first | decide +kernel | omega), (by rw [eh82, eh79] <;> rfl), by unfold bW; omega⟩))⟩⟩
                        ·
                          exact absurd c89 (by decide)
                    ·
                      refine V_bipush (-2) d_County_boreBy_173 (by decide) ?_
                      exact V_iret rfl d_County_boreBy_175 ⟨(-2), rfl, ⟨hI, f0, (by rw [lvK, pvK, bvK, uvK, xK, yK]; exact BE_of (by (first | decide +kernel | omega)) lvE oE z75E z75E hdp (bM_dp hdp z73e) z74e z75e (Or.inr ⟨by unfold bW; omega, rfl⟩) (Or.inl ⟨by (first | decide +kernel | omega), rfl, tc_m2⟩))⟩⟩
                ·
                  exact absurd c76 (by decide)
              ·
                refine V_iconst 1 d_County_boreBy_99 (by decide) ?_
                refine V_goto 104 d_County_boreBy_100 (by decide) ?_
                refine V_istore 6 [some (.ref 0), some (.int o), some (.int c), some (.int d), some (.int z17), some (.int z21), some (.int 1), none, none] d_County_boreBy_104 (by decide) rfl rfl ?_
                refine V_aload_n 0 d_County_boreBy_106 rfl rfl ?_
                refine V_getR fa_County_21 sk_0 rfl d_County_boreBy_107 ?_
                refine V_getR fa_County_107 sk_7 rfl d_County_boreBy_110 ?_
                refine V_iload_n 1 d_County_boreBy_113 rfl rfl ?_
                refine N_ialdK sk_8 oE (by (first | decide +kernel | omega)) d_County_boreBy_114 pvK ?_
                refine V_aload_n 0 d_County_boreBy_115 rfl rfl ?_
                refine V_getR fa_County_12 sk_0 rfl d_County_boreBy_116 ?_
                refine N_getK fa_County_110 sk_1 rfl d_County_boreBy_119 xK ?_
                refine V_iload d_County_boreBy_122 rfl ?_
                refine V_aload_n 0 d_County_boreBy_124 rfl rfl ?_
                refine V_getR fa_County_12 sk_0 rfl d_County_boreBy_125 ?_
                refine V_getR fa_County_95 sk_1 rfl d_County_boreBy_128 ?_
                refine V_iload_n 2 d_County_boreBy_131 rfl rfl ?_
                refine N_ialdK sk_6 cE (by (first | decide +kernel | omega)) d_County_boreBy_132 bvK ?_
                refine N_isubw d_County_boreBy_133 (fun z95 z95Z z95E z95e => ?_)
                refine N_imulw d_County_boreBy_134 (fun z96 z96Z z96E z96e => ?_)
                refine N_isubw d_County_boreBy_135 (fun z97 z97Z z97E z97e => ?_)
                refine V_istore 7 [some (.ref 0), some (.int o), some (.int c), some (.int d), some (.int z17), some (.int z21), some (.int 1), some (.int z97), none] d_County_boreBy_136 (by decide) rfl rfl ?_
                refine V_iload d_County_boreBy_138 rfl ?_
                refine V_if_eq 156 tc_1 d_County_boreBy_140 (by decide) (fun c98 => ?_) (fun c98 => ?_)
                ·
                  exact absurd c98 (by decide)
                ·
                  refine V_iload d_County_boreBy_143 rfl ?_
                  refine V_aload_n 0 d_County_boreBy_145 rfl rfl ?_
                  refine V_getR fa_County_12 sk_0 rfl d_County_boreBy_146 ?_
                  refine N_getK fa_County_113 sk_1 rfl d_County_boreBy_149 yK ?_
                  refine N_iaddw d_County_boreBy_152 (fun z99 z99Z z99E z99e => ?_)
                  refine V_goto 158 d_County_boreBy_153 (by decide) ?_
                  refine V_istore 8 [some (.ref 0), some (.int o), some (.int c), some (.int d), some (.int z17), some (.int z21), some (.int 1), some (.int z97), some (.int z99)] d_County_boreBy_158 (by decide) rfl rfl ?_
                  refine V_iload d_County_boreBy_160 rfl ?_
                  refine V_if_lt 173 z97E d_County_boreBy_162 (by decide) (fun c100 => ?_) (fun c100 => ?_)
                  ·
                    refine V_bipush (-2) d_County_boreBy_173 (by decide) ?_
                    exact V_iret rfl d_County_boreBy_175 ⟨(-2), rfl, ⟨hI, f0, (by rw [lvK, pvK, bvK, uvK, xK, yK]; exact BE_of (by (first | decide +kernel | omega)) lvE oE z97E z99E hdp (bM_dp hdp z95e) z96e z97e (Or.inl ⟨by unfold bW; omega, z99e⟩) (Or.inl ⟨by (first | decide +kernel | omega), rfl, tc_m2⟩))⟩⟩
                  ·
                    refine V_iload d_County_boreBy_165 rfl ?_
                    refine V_sipush 999 d_County_boreBy_167 (by decide) ?_
                    refine V_icmp_le 176 z99E tc_999 d_County_boreBy_170 (by decide) (fun c101 => ?_) (fun c101 => ?_)
                    ·
                      refine V_aload_n 0 d_County_boreBy_176 rfl rfl ?_
                      refine V_getR fa_County_21 sk_0 rfl d_County_boreBy_177 ?_
                      refine V_getR fa_County_107 sk_7 rfl d_County_boreBy_180 ?_
                      refine V_iload_n 1 d_County_boreBy_183 rfl rfl ?_
                      refine V_iload d_County_boreBy_184 rfl ?_
                      refine N_iast sk_8 oE (by (first | decide +kernel | omega)) d_County_boreBy_186 (fun h102 eh102 => ?_)
                      have hI103 : Inv h102 := inv_full hI eh102 rfl
                      have f104 : fr S_County_boreByX_0 h h102 := fr_put f0 eh102 rfl
                      refine V_aload_n 0 d_County_boreBy_187 rfl rfl ?_
                      refine V_getR fa_County_12 sk_0 rfl d_County_boreBy_188 ?_
                      refine V_getR fa_County_95 sk_1 rfl d_County_boreBy_191 ?_
                      refine V_iload_n 2 d_County_boreBy_194 rfl rfl ?_
                      refine V_iload d_County_boreBy_195 rfl ?_
                      refine N_iast sk_6 cE (by (first | decide +kernel | omega)) d_County_boreBy_197 (fun h105 eh105 => ?_)
                      have hI106 : Inv h105 := inv_full hI103 eh105 rfl
                      have f107 : fr S_County_boreByX_0 h h105 := fr_put f104 eh105 rfl
                      refine V_iload d_County_boreBy_198 rfl ?_
                      refine V_if_ne 208 z17E d_County_boreBy_200 (by decide) (fun c108 => ?_) (fun c108 => ?_)
                      ·
                        refine V_iconst 1 d_County_boreBy_208 (by decide) ?_
                        refine V_goto 213 d_County_boreBy_209 (by decide) ?_
                        refine N_callSI [.int 1] [] cs_County_116 d_County_boreBy_213 rfl (Nat.le_of_ble_eq_true rfl) (by decide) (by decide) (c_Rod_oneIf h105 1 1 tc_1) (fun z109 h110 z109Z z109E p111 => ?_)
                        obtain ⟨eh110, p111⟩ := p111
                        subst eh110
                        exact V_iret rfl d_County_boreBy_216 ⟨z109, rfl, ⟨hI106, f107, (by rw [lvK, pvK, bvK, uvK, xK, yK]; exact BE_of (by (first | decide +kernel | omega)) lvE oE z97E z99E hdp (bM_dp hdp z95e) z96e z97e (Or.inl ⟨by unfold bW; omega, z99e⟩) (Or.inr ⟨by (first | decide +kernel | omega), (by rw [eh105, eh102] <;> rfl), by unfold bW; omega⟩))⟩⟩
                      ·
                        refine V_iload d_County_boreBy_203 rfl ?_
                        refine V_if_eq 212 tc_1 d_County_boreBy_205 (by decide) (fun c112 => ?_) (fun c112 => ?_)
                        ·
                          exact absurd c112 (by decide)
                        ·
                          refine V_iconst 1 d_County_boreBy_208 (by decide) ?_
                          refine V_goto 213 d_County_boreBy_209 (by decide) ?_
                          refine N_callSI [.int 1] [] cs_County_116 d_County_boreBy_213 rfl (Nat.le_of_ble_eq_true rfl) (by decide) (by decide) (c_Rod_oneIf h105 1 1 tc_1) (fun z113 h114 z113Z z113E p115 => ?_)
                          obtain ⟨eh114, p115⟩ := p115
                          subst eh114
                          exact V_iret rfl d_County_boreBy_216 ⟨z113, rfl, ⟨hI106, f107, (by rw [lvK, pvK, bvK, uvK, xK, yK]; exact BE_of (by (first | decide +kernel | omega)) lvE oE z97E z99E hdp (bM_dp hdp z95e) z96e z97e (Or.inl ⟨by unfold bW; omega, z99e⟩) (Or.inr ⟨by (first | decide +kernel | omega), (by rw [eh105, eh102] <;> rfl), by unfold bW; omega⟩))⟩⟩
                    ·
                      refine V_bipush (-2) d_County_boreBy_173 (by decide) ?_
                      exact V_iret rfl d_County_boreBy_175 ⟨(-2), rfl, ⟨hI, f0, (by rw [lvK, pvK, bvK, uvK, xK, yK]; exact BE_of (by (first | decide +kernel | omega)) lvE oE z97E z99E hdp (bM_dp hdp z95e) z96e z97e (Or.inl ⟨by unfold bW; omega, z99e⟩) (Or.inl ⟨by (first | decide +kernel | omega), rfl, tc_m2⟩))⟩⟩
        ·
          refine V_bipush (-2) d_County_boreBy_40 (by decide) ?_
          exact V_iret rfl d_County_boreBy_42 ⟨(-2), rfl, ⟨hI, f0, (by rw [lvK, pvK, bvK, uvK, xK, yK]; exact Or.inr ⟨by (first | decide +kernel | omega), BE_cl (fun q => absurd (congrArg Int32.toInt q) (by (first | decide +kernel | omega))) rfl tc_m2⟩)⟩⟩
      ·
        replace p13 := p13.resolve_left (fun q => by (first | decide +kernel | omega))
        refine V_iconst (-1) d_County_boreBy_25 (by decide) ?_
        exact V_iret rfl d_County_boreBy_26 ⟨(-1), rfl, ⟨hI, f0, (Or.inl ⟨by (first | decide +kernel | omega), rfl, tc_m1⟩)⟩⟩
def S_Rod_boreX : List (Nat × Option Nat) := [(8, none), (6, none)]
abbrev q_Rod_boreX (h : Hp) (o : Int32) (oZ : Int) (c : Int32) (cZ : Int) (d : Int32) (dZ : Int) (w : Int32) (wZ : Int) (g : Int32) (gZ : Int) (x : Int32) (xZ : Int) (y : Int32) (yZ : Int) : Option Value → Hp → Prop := pInt (fun r h' => Inv h' ∧ fr S_Rod_boreX h h' ∧ (BE h h' 8 oZ.toNat 6 cZ.toNat (0 ≤ oZ ∧ oZ ≤ 3 ∧ 0 ≤ cZ ∧ cZ < wZ * gZ ∧ 1 ≤ dZ ∧ dZ ≤ 9) (h.1 5 cZ.toNat) o (h.1 8 oZ.toNat) (h.1 6 cZ.toNat) (h.1 2 cZ.toNat) (h.1 1 2) (h.1 1 3) d r))
set_option maxRecDepth 100000 in
theorem c_Rod_boreX (h : Hp) (hI : Inv h) (o : Int32) (oZ : Int) (oE : o.toInt = oZ) (c : Int32) (cZ : Int) (cE : c.toInt = cZ) (d : Int32) (dZ : Int) (dE : d.toInt = dZ) (w : Int32) (wZ : Int) (wE : w.toInt = wZ) (wK : h.1 1 0 = w) (g : Int32) (gZ : Int) (gE : g.toInt = gZ) (gK : h.1 1 1 = g) (x : Int32) (xZ : Int) (xE : x.toInt = xZ) (xK : h.1 1 2 = x) (y : Int32) (yZ : Int) (yE : y.toInt = yZ) (yK : h.1 1 3 = y) : Ct y_Rod_bore b_Rod_bore 4 (some .int) 3 69 [.ref 85, .int o, .int c, .int d] h (q_Rod_boreX h o oZ c cZ d dZ w wZ g gZ x xZ y yZ) := by
  refine ct_ow R_Rod [some (.ref 85), some (.int o), some (.int c), some (.int d)] rfl (by decide) rfl (Nat.le_of_ble_eq_true rfl) ?_
  have f0 : fr S_Rod_boreX h h := fr_rf
  have g1 : 2 ≤ wZ ∧ wZ ≤ 4 := inv_at hI wE wK.symm rfl
  have g2 : 2 ≤ gZ ∧ gZ ≤ 4 := inv_at hI gE gK.symm rfl
  refine V_aload_n 0 d_Rod_bore_0 rfl rfl ?_
  refine V_getR fa_Rod_12 sk_85 rfl d_Rod_bore_1 ?_
  refine V_iload_n 1 d_Rod_bore_4 rfl rfl ?_
  refine V_iload_n 2 d_Rod_bore_5 rfl rfl ?_
  refine V_iload_n 3 d_Rod_bore_6 rfl rfl ?_
  refine N_callVI [.int o, .int c, .int d] [] cv_Rod_227 sk_0 rfl d_Rod_bore_7 rfl (Nat.le_of_ble_eq_true rfl) (by decide) (by decide) (c_County_boreByX_0 h hI o oZ oE c cZ cE d dZ dE w wZ wE wK g gZ gE gK x xZ xE xK y yZ yE yK) (fun z3 h4 z3Z z3E p5 => ?_)
  obtain ⟨hI6, fh4, p5⟩ := p5
  have f7 : fr S_Rod_boreX h h4 := fr_call f0 fh4 rfl
  exact V_iret rfl d_Rod_bore_10 ⟨z3, rfl, ⟨hI6, f7, (by have q9 := p5; rw [xK, yK] at q9 ⊢; exact q9)⟩⟩
def S_Mod_boreX : List (Nat × Option Nat) := [(117, none)]
abbrev q_Mod_boreX (h : Hp) (o : Int32) (oZ : Int) (c : Int32) (cZ : Int) (d : Int32) (dZ : Int) (w : Int32) (wZ : Int) (g : Int32) (gZ : Int) (x : Int32) (xZ : Int) (y : Int32) (yZ : Int) : Option Value → Hp → Prop := pInt (fun r h' => Inv h' ∧ fr S_Mod_boreX h h' ∧ (BE h h' 117 (80 + oZ).toNat 117 (64 + cZ).toNat (0 ≤ oZ ∧ oZ ≤ 3 ∧ 0 ≤ cZ ∧ cZ < wZ * gZ ∧ 1 ≤ dZ ∧ dZ ≤ 9) (h.1 117 (48 + cZ).toNat) o (h.1 117 (80 + oZ).toNat) (h.1 117 (64 + cZ).toNat) (h.1 117 (0 + cZ).toNat) (h.1 116 4) (h.1 116 5) d r))
set_option maxRecDepth 100000 in
theorem c_Mod_boreX (h : Hp) (hI : Inv h) (o : Int32) (oZ : Int) (oE : o.toInt = oZ) (c : Int32) (cZ : Int) (cE : c.toInt = cZ) (d : Int32) (dZ : Int) (dE : d.toInt = dZ) (w : Int32) (wZ : Int) (wE : w.toInt = wZ) (wK : h.1 116 2 = w) (g : Int32) (gZ : Int) (gE : g.toInt = gZ) (gK : h.1 116 3 = g) (x : Int32) (xZ : Int) (xE : x.toInt = xZ) (xK : h.1 116 4 = x) (y : Int32) (yZ : Int) (yE : y.toInt = yZ) (yK : h.1 116 5 = y) : Ct y_Mod_bore b_Mod_bore 9 (some .int) 2 46 [.ref 116, .int o, .int c, .int d] h (q_Mod_boreX h o oZ c cZ d dZ w wZ g gZ x xZ y yZ) := by
  refine ct_ow R_Mod [some (.ref 116), some (.int o), some (.int c), some (.int d), none, none, none, none, none] rfl (by decide) rfl (Nat.le_of_ble_eq_true rfl) ?_
  have f0 : fr S_Mod_boreX h h := fr_rf
  have g1 : 2 ≤ wZ ∧ wZ ≤ 4 := inv_at hI wE wK.symm rfl
  have g2 : 2 ≤ gZ ∧ gZ ≤ 4 := inv_at hI gE gK.symm rfl
  obtain ⟨uv, uvZ, uvE, uvK⟩ : ∃ (y : Int32) (Y : Int), y.toInt = Y ∧ h.1 117 ((0 + cZ)).toNat = y := ⟨_, _, rfl, rfl⟩
  obtain ⟨bv, bvZ, bvE, bvK⟩ : ∃ (y : Int32) (Y : Int), y.toInt = Y ∧ h.1 117 ((64 + cZ)).toNat = y := ⟨_, _, rfl, rfl⟩
  obtain ⟨lv, lvZ, lvE, lvK⟩ : ∃ (y : Int32) (Y : Int), y.toInt = Y ∧ h.1 117 ((48 + cZ)).toNat = y := ⟨_, _, rfl, rfl⟩
  obtain ⟨pv, pvZ, pvE, pvK⟩ : ∃ (y : Int32) (Y : Int), y.toInt = Y ∧ h.1 117 ((80 + oZ)).toNat = y := ⟨_, _, rfl, rfl⟩
  refine V_iload_n 1 d_Mod_bore_0 rfl rfl ?_
  refine N_callSI [.int o] [] cs_Mod_205 d_Mod_bore_1 rfl (Nat.le_of_ble_eq_true rfl) (by decide) (by decide) (c_Mod_isOwner h o oZ oE) (fun z3 h4 z3Z z3E p5 => ?_)
  obtain ⟨eh4, p5⟩ := p5
  subst eh4
  refine V_if_eq 27 z3E d_Mod_bore_4 (by decide) (fun c6 => ?_) (fun c6 => ?_)
  ·
    replace p5 := p5.resolve_left (fun q => by (first | decide +kernel | omega))
    refine V_iconst (-1) d_Mod_bore_27 (by decide) ?_
    exact V_iret rfl d_Mod_bore_28 ⟨(-1), rfl, ⟨hI, f0, (Or.inl ⟨by (first | decide +kernel | omega), rfl, tc_m1⟩)⟩⟩
  ·
    replace p5 := p5.resolve_right (fun q => by (first | decide +kernel | omega))
    refine V_aload_n 0 d_Mod_bore_7 rfl rfl ?_
    refine V_iload_n 2 d_Mod_bore_8 rfl rfl ?_
    refine N_callVI [.int c] [] cv_Mod_200 sk_116 rfl d_Mod_bore_9 rfl (Nat.le_of_ble_eq_true rfl) (by decide) (by decide) (c_Mod_isCellX h hI c cZ cE w wZ wE wK g gZ gE gK) (fun z7 h8 z7Z z7E p9 => ?_)
    obtain ⟨eh8, p9⟩ := p9
    subst eh8
    refine V_if_eq 27 z7E d_Mod_bore_12 (by decide) (fun c10 => ?_) (fun c10 => ?_)
    ·
      replace p9 := p9.resolve_left (fun q => by (first | decide +kernel | omega))
      refine V_iconst (-1) d_Mod_bore_27 (by decide) ?_
      exact V_iret rfl d_Mod_bore_28 ⟨(-1), rfl, ⟨hI, f0, (Or.inl ⟨by (first | decide +kernel | omega), rfl, tc_m1⟩)⟩⟩
    ·
      replace p9 := p9.resolve_right (fun q => by (first | decide +kernel | omega))
      refine V_iload_n 3 d_Mod_bore_15 rfl rfl ?_
      refine V_i2l d_Mod_bore_16 (fun z11 z11e z11E => ?_)
      have z11F : z11.toInt = dZ := z11E.trans dE
      refine V_lconst 1 d_Mod_bore_17 (by decide) ?_
      refine V_ldc2 d_Mod_bore_18 wl_Mod_208 ?_
      refine N_callSI [.long z11, .long 1, .long 9] [] cs_Mod_95 d_Mod_bore_21 rfl (Nat.le_of_ble_eq_true rfl) (by decide) (by decide) (c_Mod_in h z11 dZ z11F 1 1 tl_1 9 9 tl_9) (fun z12 h13 z12Z z12E p14 => ?_)
      obtain ⟨eh13, p14⟩ := p14
      subst eh13
      refine V_if_ne 29 z12E d_Mod_bore_24 (by decide) (fun c15 => ?_) (fun c15 => ?_)
      ·
        replace p14 := p14.resolve_right (fun q => by (first | decide +kernel | omega))
        refine V_iload_n 3 d_Mod_bore_29 rfl rfl ?_
        refine V_aload_n 0 d_Mod_bore_30 rfl rfl ?_
        refine V_getR fa_Mod_7 sk_116 rfl d_Mod_bore_31 ?_
        refine V_bipush 64 d_Mod_bore_34 (by decide) ?_
        refine V_iload_n 2 d_Mod_bore_36 rfl rfl ?_
        refine V_iadd tc_64 cE (by (first | decide +kernel | omega)) d_Mod_bore_37 (fun z16 z16e z16E => ?_)
        refine N_ialdK sk_117 z16E (by (first | decide +kernel | omega)) d_Mod_bore_38 bvK ?_
        refine V_icmp_le 56 dE bvE d_Mod_bore_39 (by decide) (fun c18 => ?_) (fun c18 => ?_)
        ·
          refine V_iconst 0 d_Mod_bore_56 (by decide) ?_
          refine V_istore 4 [some (.ref 116), some (.int o), some (.int c), some (.int d), some (.int 0), none, none, none, none] d_Mod_bore_57 (by decide) rfl rfl ?_
          have hm : (0 : Int32) = bM bv d := bM_0 bvE dE (by (first | decide +kernel | omega))
          refine V_aload_n 0 d_Mod_bore_59 rfl rfl ?_
          refine V_getR fa_Mod_7 sk_116 rfl d_Mod_bore_60 ?_
          refine V_bipush 64 d_Mod_bore_63 (by decide) ?_
          refine V_iload_n 2 d_Mod_bore_65 rfl rfl ?_
          refine V_iadd tc_64 cE (by (first | decide +kernel | omega)) d_Mod_bore_66 (fun z19 z19e z19E => ?_)
          refine N_ialdK sk_117 z19E (by (first | decide +kernel | omega)) d_Mod_bore_67 bvK ?_
          refine V_iload d_Mod_bore_68 rfl ?_
          refine N_iaddw d_Mod_bore_70 (fun z21 z21Z z21E z21e => ?_)
          have hdp : z21 = bD bv d := bD_add hm z21e
          have hdz : z21Z = dZ ∧ bvZ < dZ ∨ z21Z = bvZ ∧ dZ ≤ bvZ := bD_z hdp z21E bvE dE
          refine V_istore 5 [some (.ref 116), some (.int o), some (.int c), some (.int d), some (.int 0), some (.int z21), none, none, none] d_Mod_bore_71 (by decide) rfl rfl ?_
          refine V_aload_n 0 d_Mod_bore_73 rfl rfl ?_
          refine V_getR fa_Mod_7 sk_116 rfl d_Mod_bore_74 ?_
          refine V_bipush 80 d_Mod_bore_77 (by decide) ?_
          refine V_iload_n 1 d_Mod_bore_79 rfl rfl ?_
          refine V_iadd tc_80 oE (by (first | decide +kernel | omega)) d_Mod_bore_80 (fun z22 z22e z22E => ?_)
          refine N_ialdK sk_117 z22E (by (first | decide +kernel | omega)) d_Mod_bore_81 pvK ?_
          refine V_aload_n 0 d_Mod_bore_82 rfl rfl ?_
          refine N_getK fa_Mod_87 sk_116 rfl d_Mod_bore_83 xK ?_
          refine V_iload d_Mod_bore_86 rfl ?_
          refine V_imul xE tc_0 (by (first | decide +kernel | omega)) d_Mod_bore_88 (fun z24 z24e z24E => ?_)
          refine N_isubw d_Mod_bore_89 (fun z25 z25Z z25E z25e => ?_)
          refine V_istore 6 [some (.ref 116), some (.int o), some (.int c), some (.int d), some (.int 0), some (.int z21), some (.int z25), none, none] d_Mod_bore_90 (by decide) rfl rfl ?_
          refine V_aload_n 0 d_Mod_bore_92 rfl rfl ?_
          refine V_iload_n 2 d_Mod_bore_93 rfl rfl ?_
          refine N_callVI [.int c] [] cv_Mod_192 sk_116 rfl d_Mod_bore_94 rfl (Nat.le_of_ble_eq_true rfl) (by decide) (by decide) (c_Mod_isWellX h hI c cZ cE (by (first | decide +kernel | omega))) (fun z26 h27 z26Z z26E p28 => ?_)
          obtain ⟨eh27, p28⟩ := p28
          subst eh27
          rw [uvK, bvK] at p28
          unfold bW at p28
          refine V_if_ne 120 z26E d_Mod_bore_97 (by decide) (fun c29 => ?_) (fun c29 => ?_)
          ·
            replace p28 := p28.resolve_right (fun q => by (first | decide +kernel | omega))
            refine V_iconst 0 d_Mod_bore_120 (by decide) ?_
            refine V_istore 7 [some (.ref 116), some (.int o), some (.int c), some (.int d), some (.int 0), some (.int z21), some (.int z25), some (.int 0), none] d_Mod_bore_121 (by decide) rfl rfl ?_
            refine V_iload d_Mod_bore_123 rfl ?_
            refine V_if_eq 138 tc_0 d_Mod_bore_125 (by decide) (fun c30 => ?_) (fun c30 => ?_)
            ·
              refine V_iload d_Mod_bore_138 rfl ?_
              refine V_istore 8 [some (.ref 116), some (.int o), some (.int c), some (.int d), some (.int 0), some (.int z21), some (.int z25), some (.int 0), some (.int z25)] d_Mod_bore_140 (by decide) rfl rfl ?_
              refine V_aload_n 0 d_Mod_bore_142 rfl rfl ?_
              refine V_getR fa_Mod_7 sk_116 rfl d_Mod_bore_143 ?_
              refine V_bipush 48 d_Mod_bore_146 (by decide) ?_
              refine V_iload_n 2 d_Mod_bore_148 rfl rfl ?_
              refine V_iadd tc_48 cE (by (first | decide +kernel | omega)) d_Mod_bore_149 (fun z31 z31e z31E => ?_)
              refine N_ialdK sk_117 z31E (by (first | decide +kernel | omega)) d_Mod_bore_150 lvK ?_
              refine V_iload_n 1 d_Mod_bore_151 rfl rfl ?_
              refine V_icmp_ne 168 lvE oE d_Mod_bore_152 (by decide) (fun c33 => ?_) (fun c33 => ?_)
              ·
                refine V_bipush (-2) d_Mod_bore_168 (by decide) ?_
                exact V_iret rfl d_Mod_bore_170 ⟨(-2), rfl, ⟨hI, f0, (by rw [lvK, pvK, bvK, uvK, xK, yK]; exact BE_of (by (first | decide +kernel | omega)) lvE oE z25E z25E hdp hm z24e z25e (Or.inr ⟨by unfold bW; omega, rfl⟩) (Or.inl ⟨by (first | decide +kernel | omega), rfl, tc_m2⟩))⟩⟩
              ·
                refine V_iload d_Mod_bore_155 rfl ?_
                refine V_if_lt 168 z25E d_Mod_bore_157 (by decide) (fun c34 => ?_) (fun c34 => ?_)
                ·
                  refine V_bipush (-2) d_Mod_bore_168 (by decide) ?_
                  exact V_iret rfl d_Mod_bore_170 ⟨(-2), rfl, ⟨hI, f0, (by rw [lvK, pvK, bvK, uvK, xK, yK]; exact BE_of (by (first | decide +kernel | omega)) lvE oE z25E z25E hdp hm z24e z25e (Or.inr ⟨by unfold bW; omega, rfl⟩) (Or.inl ⟨by (first | decide +kernel | omega), rfl, tc_m2⟩))⟩⟩
                ·
                  refine V_iload d_Mod_bore_160 rfl ?_
                  refine V_sipush 999 d_Mod_bore_162 (by decide) ?_
                  refine V_icmp_le 171 z25E tc_999 d_Mod_bore_165 (by decide) (fun c35 => ?_) (fun c35 => ?_)
                  ·
                    refine V_aload_n 0 d_Mod_bore_171 rfl rfl ?_
                    refine V_getR fa_Mod_7 sk_116 rfl d_Mod_bore_172 ?_
                    refine V_bipush 80 d_Mod_bore_175 (by decide) ?_
                    refine V_iload_n 1 d_Mod_bore_177 rfl rfl ?_
                    refine V_iadd tc_80 oE (by (first | decide +kernel | omega)) d_Mod_bore_178 (fun z36 z36e z36E => ?_)
                    refine V_iload d_Mod_bore_179 rfl ?_
                    refine N_iast sk_117 z36E (by (first | decide +kernel | omega)) d_Mod_bore_181 (fun h37 eh37 => ?_)
                    have hI38 : Inv h37 := inv_full hI eh37 (st_lo (by (first | decide +kernel | omega)))
                    have f39 : fr S_Mod_boreX h h37 := fr_put f0 eh37 rfl
                    refine V_aload_n 0 d_Mod_bore_182 rfl rfl ?_
                    refine V_getR fa_Mod_7 sk_116 rfl d_Mod_bore_183 ?_
                    refine V_bipush 64 d_Mod_bore_186 (by decide) ?_
                    refine V_iload_n 2 d_Mod_bore_188 rfl rfl ?_
                    refine V_iadd tc_64 cE (by (first | decide +kernel | omega)) d_Mod_bore_189 (fun z40 z40e z40E => ?_)
                    refine V_iload d_Mod_bore_190 rfl ?_
                    refine N_iast sk_117 z40E (by (first | decide +kernel | omega)) d_Mod_bore_192 (fun h41 eh41 => ?_)
                    have hI42 : Inv h41 := inv_full hI38 eh41 (st_lo (by (first | decide +kernel | omega)))
                    have f43 : fr S_Mod_boreX h h41 := fr_put f39 eh41 rfl
                    refine V_aload_n 0 d_Mod_bore_193 rfl rfl ?_
                    refine V_iload_n 2 d_Mod_bore_194 rfl rfl ?_
                    refine N_callVI [.int c] [] cv_Mod_192 sk_116 rfl d_Mod_bore_195 rfl (Nat.le_of_ble_eq_true rfl) (by decide) (by decide) (c_Mod_isWellX h41 hI42 c cZ cE (by (first | decide +kernel | omega))) (fun z44 h45 z44Z z44E p46 => ?_)
                    obtain ⟨eh45, p46⟩ := p46
                    subst eh45
                    rw [show h41.1 117 (0 + cZ).toNat = uv from kn_nei eh41 (kn_nei eh37 uvK (by (first | decide +kernel | omega))) (by (first | decide +kernel | omega)), show h41.1 117 (64 + cZ).toNat = z21 from kn_put eh41] at p46
                    unfold bW at p46
                    refine N_callSI [.int z44] [] cs_Mod_196 d_Mod_bore_198 rfl (Nat.le_of_ble_eq_true rfl) (by decide) (by decide) (c_Mod_flag h41 z44 z44Z z44E) (fun z47 h48 z47Z z47E p49 => ?_)
                    obtain ⟨eh48, p49⟩ := p49
                    subst eh48
                    exact V_iret rfl d_Mod_bore_201 ⟨z47, rfl, ⟨hI42, f43, (by rw [lvK, pvK, bvK, uvK, xK, yK]; exact BE_of (by (first | decide +kernel | omega)) lvE oE z25E z25E hdp hm z24e z25e (Or.inr ⟨by unfold bW; omega, rfl⟩) (Or.inr ⟨by (first | decide +kernel | omega), (by rw [eh41, eh37] <;> rfl), by unfold bW; omega⟩))⟩⟩
                  ·
                    refine V_bipush (-2) d_Mod_bore_168 (by decide) ?_
                    exact V_iret rfl d_Mod_bore_170 ⟨(-2), rfl, ⟨hI, f0, (by rw [lvK, pvK, bvK, uvK, xK, yK]; exact BE_of (by (first | decide +kernel | omega)) lvE oE z25E z25E hdp hm z24e z25e (Or.inr ⟨by unfold bW; omega, rfl⟩) (Or.inl ⟨by (first | decide +kernel | omega), rfl, tc_m2⟩))⟩⟩
            ·
              exact absurd c30 (by decide)
          ·
            replace p28 := p28.resolve_left (fun q => by (first | decide +kernel | omega))
            refine V_aload_n 0 d_Mod_bore_100 rfl rfl ?_
            refine V_getR fa_Mod_7 sk_116 rfl d_Mod_bore_101 ?_
            refine V_iconst 0 d_Mod_bore_104 (by decide) ?_
            refine V_iload_n 2 d_Mod_bore_105 rfl rfl ?_
            refine V_iadd tc_0 cE (by (first | decide +kernel | omega)) d_Mod_bore_106 (fun z50 z50e z50E => ?_)
            refine N_ialdK sk_117 z50E (by (first | decide +kernel | omega)) d_Mod_bore_107 uvK ?_
            refine V_iload d_Mod_bore_108 rfl ?_
            refine N_callSI [.int uv, .int z21] [] cs_Mod_188 d_Mod_bore_110 rfl (Nat.le_of_ble_eq_true rfl) (by decide) (by decide) (c_Mod_isWellByX h uv uvZ uvE z21 z21Z z21E) (fun z52 h53 z52Z z52E p54 => ?_)
            obtain ⟨eh53, p54⟩ := p54
            subst eh53
            refine V_if_eq 120 z52E d_Mod_bore_113 (by decide) (fun c55 => ?_) (fun c55 => ?_)
            ·
              replace p54 := p54.resolve_left (fun q => by (first | decide +kernel | omega))
              refine V_iconst 0 d_Mod_bore_120 (by decide) ?_
              refine V_istore 7 [some (.ref 116), some (.int o), some (.int c), some (.int d), some (.int 0), some (.int z21), some (.int z25), some (.int 0), none] d_Mod_bore_121 (by decide) rfl rfl ?_
              refine V_iload d_Mod_bore_123 rfl ?_
              refine V_if_eq 138 tc_0 d_Mod_bore_125 (by decide) (fun c56 => ?_) (fun c56 => ?_)
              ·
                refine V_iload d_Mod_bore_138 rfl ?_
                refine V_istore 8 [some (.ref 116), some (.int o), some (.int c), some (.int d), some (.int 0), some (.int z21), some (.int z25), some (.int 0), some (.int z25)] d_Mod_bore_140 (by decide) rfl rfl ?_
                refine V_aload_n 0 d_Mod_bore_142 rfl rfl ?_
                refine V_getR fa_Mod_7 sk_116 rfl d_Mod_bore_143 ?_
                refine V_bipush 48 d_Mod_bore_146 (by decide) ?_
                refine V_iload_n 2 d_Mod_bore_148 rfl rfl ?_
                refine V_iadd tc_48 cE (by (first | decide +kernel | omega)) d_Mod_bore_149 (fun z57 z57e z57E => ?_)
                refine N_ialdK sk_117 z57E (by (first | decide +kernel | omega)) d_Mod_bore_150 lvK ?_
                refine V_iload_n 1 d_Mod_bore_151 rfl rfl ?_
                refine V_icmp_ne 168 lvE oE d_Mod_bore_152 (by decide) (fun c59 => ?_) (fun c59 => ?_)
                ·
                  refine V_bipush (-2) d_Mod_bore_168 (by decide) ?_
                  exact V_iret rfl d_Mod_bore_170 ⟨(-2), rfl, ⟨hI, f0, (by rw [lvK, pvK, bvK, uvK, xK, yK]; exact BE_of (by (first | decide +kernel | omega)) lvE oE z25E z25E hdp hm z24e z25e (Or.inr ⟨by unfold bW; omega, rfl⟩) (Or.inl ⟨by (first | decide +kernel | omega), rfl, tc_m2⟩))⟩⟩
                ·
                  refine V_iload d_Mod_bore_155 rfl ?_
                  refine V_if_lt 168 z25E d_Mod_bore_157 (by decide) (fun c60 => ?_) (fun c60 => ?_)
                  ·
                    refine V_bipush (-2) d_Mod_bore_168 (by decide) ?_
                    exact V_iret rfl d_Mod_bore_170 ⟨(-2), rfl, ⟨hI, f0, (by rw [lvK, pvK, bvK, uvK, xK, yK]; exact BE_of (by (first | decide +kernel | omega)) lvE oE z25E z25E hdp hm z24e z25e (Or.inr ⟨by unfold bW; omega, rfl⟩) (Or.inl ⟨by (first | decide +kernel | omega), rfl, tc_m2⟩))⟩⟩
                  ·
                    refine V_iload d_Mod_bore_160 rfl ?_
                    refine V_sipush 999 d_Mod_bore_162 (by decide) ?_
                    refine V_icmp_le 171 z25E tc_999 d_Mod_bore_165 (by decide) (fun c61 => ?_) (fun c61 => ?_)
                    ·
                      refine V_aload_n 0 d_Mod_bore_171 rfl rfl ?_
                      refine V_getR fa_Mod_7 sk_116 rfl d_Mod_bore_172 ?_
                      refine V_bipush 80 d_Mod_bore_175 (by decide) ?_
                      refine V_iload_n 1 d_Mod_bore_177 rfl rfl ?_
                      refine V_iadd tc_80 oE (by (first | decide +kernel | omega)) d_Mod_bore_178 (fun z62 z62e z62E => ?_)
                      refine V_iload d_Mod_bore_179 rfl ?_
                      refine N_iast sk_117 z62E (by (first | decide +kernel | omega)) d_Mod_bore_181 (fun h63 eh63 => ?_)
                      have hI64 : Inv h63 := inv_full hI eh63 (st_lo (by (first | decide +kernel | omega)))
                      have f65 : fr S_Mod_boreX h h63 := fr_put f0 eh63 rfl
                      refine V_aload_n 0 d_Mod_bore_182 rfl rfl ?_
                      refine V_getR fa_Mod_7 sk_116 rfl d_Mod_bore_183 ?_
                      refine V_bipush 64 d_Mod_bore_186 (by decide) ?_
                      refine V_iload_n 2 d_Mod_bore_188 rfl rfl ?_
                      refine V_iadd tc_64 cE (by (first | decide +kernel | omega)) d_Mod_bore_189 (fun z66 z66e z66E => ?_)
                      refine V_iload d_Mod_bore_190 rfl ?_
                      refine N_iast sk_117 z66E (by (first | decide +kernel | omega)) d_Mod_bore_192 (fun h67 eh67 => ?_)
                      have hI68 : Inv h67 := inv_full hI64 eh67 (st_lo (by (first | decide +kernel | omega)))
                      have f69 : fr S_Mod_boreX h h67 := fr_put f65 eh67 rfl
                      refine V_aload_n 0 d_Mod_bore_193 rfl rfl ?_
                      refine V_iload_n 2 d_Mod_bore_194 rfl rfl ?_
                      refine N_callVI [.int c] [] cv_Mod_192 sk_116 rfl d_Mod_bore_195 rfl (Nat.le_of_ble_eq_true rfl) (by decide) (by decide) (c_Mod_isWellX h67 hI68 c cZ cE (by (first | decide +kernel | omega))) (fun z70 h71 z70Z z70E p72 => ?_)
                      obtain ⟨eh71, p72⟩ := p72
                      subst eh71
                      rw [show h67.1 117 (0 + cZ).toNat = uv from kn_nei eh67 (kn_nei eh63 uvK (by (first | decide +kernel | omega))) (by (first | decide +kernel | omega)), show h67.1 117 (64 + cZ).toNat = z21 from kn_put eh67] at p72
                      unfold bW at p72
                      refine N_callSI [.int z70] [] cs_Mod_196 d_Mod_bore_198 rfl (Nat.le_of_ble_eq_true rfl) (by decide) (by decide) (c_Mod_flag h67 z70 z70Z z70E) (fun z73 h74 z73Z z73E p75 => ?_)
                      obtain ⟨eh74, p75⟩ := p75
                      subst eh74
                      exact V_iret rfl d_Mod_bore_201 ⟨z73, rfl, ⟨hI68, f69, (by rw [lvK, pvK, bvK, uvK, xK, yK]; exact BE_of (by (first | decide +kernel | omega)) lvE oE z25E z25E hdp hm z24e z25e (Or.inr ⟨by unfold bW; omega, rfl⟩) (Or.inr ⟨by (first | decide +kernel | omega), (by rw [eh67, eh63] <;> rfl), by unfold bW; omega⟩))⟩⟩
                    ·
                      refine V_bipush (-2) d_Mod_bore_168 (by decide) ?_
                      exact V_iret rfl d_Mod_bore_170 ⟨(-2), rfl, ⟨hI, f0, (by rw [lvK, pvK, bvK, uvK, xK, yK]; exact BE_of (by (first | decide +kernel | omega)) lvE oE z25E z25E hdp hm z24e z25e (Or.inr ⟨by unfold bW; omega, rfl⟩) (Or.inl ⟨by (first | decide +kernel | omega), rfl, tc_m2⟩))⟩⟩
              ·
                exact absurd c56 (by decide)
            ·
              replace p54 := p54.resolve_right (fun q => by (first | decide +kernel | omega))
              refine V_iconst 1 d_Mod_bore_116 (by decide) ?_
              refine V_goto 121 d_Mod_bore_117 (by decide) ?_
              refine V_istore 7 [some (.ref 116), some (.int o), some (.int c), some (.int d), some (.int 0), some (.int z21), some (.int z25), some (.int 1), none] d_Mod_bore_121 (by decide) rfl rfl ?_
              refine V_iload d_Mod_bore_123 rfl ?_
              refine V_if_eq 138 tc_1 d_Mod_bore_125 (by decide) (fun c76 => ?_) (fun c76 => ?_)
              ·
                exact absurd c76 (by decide)
              ·
                refine V_iload d_Mod_bore_128 rfl ?_
                refine V_aload_n 0 d_Mod_bore_130 rfl rfl ?_
                refine N_getK fa_Mod_90 sk_116 rfl d_Mod_bore_131 yK ?_
                refine N_iaddw d_Mod_bore_134 (fun z77 z77Z z77E z77e => ?_)
                refine V_goto 140 d_Mod_bore_135 (by decide) ?_
                refine V_istore 8 [some (.ref 116), some (.int o), some (.int c), some (.int d), some (.int 0), some (.int z21), some (.int z25), some (.int 1), some (.int z77)] d_Mod_bore_140 (by decide) rfl rfl ?_
                refine V_aload_n 0 d_Mod_bore_142 rfl rfl ?_
                refine V_getR fa_Mod_7 sk_116 rfl d_Mod_bore_143 ?_
                refine V_bipush 48 d_Mod_bore_146 (by decide) ?_
                refine V_iload_n 2 d_Mod_bore_148 rfl rfl ?_
                refine V_iadd tc_48 cE (by (first | decide +kernel | omega)) d_Mod_bore_149 (fun z78 z78e z78E => ?_)
                refine N_ialdK sk_117 z78E (by (first | decide +kernel | omega)) d_Mod_bore_150 lvK ?_
                refine V_iload_n 1 d_Mod_bore_151 rfl rfl ?_
                refine V_icmp_ne 168 lvE oE d_Mod_bore_152 (by decide) (fun c80 => ?_) (fun c80 => ?_)
                ·
                  refine V_bipush (-2) d_Mod_bore_168 (by decide) ?_
                  exact V_iret rfl d_Mod_bore_170 ⟨(-2), rfl, ⟨hI, f0, (by rw [lvK, pvK, bvK, uvK, xK, yK]; exact BE_of (by (first | decide +kernel | omega)) lvE oE z25E z77E hdp hm z24e z25e (Or.inl ⟨by unfold bW; omega, z77e⟩) (Or.inl ⟨by (first | decide +kernel | omega), rfl, tc_m2⟩))⟩⟩
                ·
                  refine V_iload d_Mod_bore_155 rfl ?_
                  refine V_if_lt 168 z25E d_Mod_bore_157 (by decide) (fun c81 => ?_) (fun c81 => ?_)
                  ·
                    refine V_bipush (-2) d_Mod_bore_168 (by decide) ?_
                    exact V_iret rfl d_Mod_bore_170 ⟨(-2), rfl, ⟨hI, f0, (by rw [lvK, pvK, bvK, uvK, xK, yK]; exact BE_of (by (first | decide +kernel | omega)) lvE oE z25E z77E hdp hm z24e z25e (Or.inl ⟨by unfold bW; omega, z77e⟩) (Or.inl ⟨by (first | decide +kernel | omega), rfl, tc_m2⟩))⟩⟩
                  ·
                    refine V_iload d_Mod_bore_160 rfl ?_
                    refine V_sipush 999 d_Mod_bore_162 (by decide) ?_
                    refine V_icmp_le 171 z77E tc_999 d_Mod_bore_165 (by decide) (fun c82 => ?_) (fun c82 => ?_)
                    ·
                      refine V_aload_n 0 d_Mod_bore_171 rfl rfl ?_
                      refine V_getR fa_Mod_7 sk_116 rfl d_Mod_bore_172 ?_
                      refine V_bipush 80 d_Mod_bore_175 (by decide) ?_
                      refine V_iload_n 1 d_Mod_bore_177 rfl rfl ?_
                      refine V_iadd tc_80 oE (by (first | decide +kernel | omega)) d_Mod_bore_178 (fun z83 z83e z83E => ?_)
                      refine V_iload d_Mod_bore_179 rfl ?_
                      refine N_iast sk_117 z83E (by (first | decide +kernel | omega)) d_Mod_bore_181 (fun h84 eh84 => ?_)
                      have hI85 : Inv h84 := inv_full hI eh84 (st_lo (by (first | decide +kernel | omega)))
                      have f86 : fr S_Mod_boreX h h84 := fr_put f0 eh84 rfl
                      refine V_aload_n 0 d_Mod_bore_182 rfl rfl ?_
                      refine V_getR fa_Mod_7 sk_116 rfl d_Mod_bore_183 ?_
                      refine V_bipush 64 d_Mod_bore_186 (by decide) ?_
                      refine V_iload_n 2 d_Mod_bore_188 rfl rfl ?_
                      refine V_iadd tc_64 cE (by (first | decide +kernel | omega)) d_Mod_bore_189 (fun z87 z87e z87E => ?_)
                      refine V_iload d_Mod_bore_190 rfl ?_
                      refine N_iast sk_117 z87E (by (first | decide +kernel | omega)) d_Mod_bore_192 (fun h88 eh88 => ?_)
                      have hI89 : Inv h88 := inv_full hI85 eh88 (st_lo (by (first | decide +kernel | omega)))
                      have f90 : fr S_Mod_boreX h h88 := fr_put f86 eh88 rfl
                      refine V_aload_n 0 d_Mod_bore_193 rfl rfl ?_
                      refine V_iload_n 2 d_Mod_bore_194 rfl rfl ?_
                      refine N_callVI [.int c] [] cv_Mod_192 sk_116 rfl d_Mod_bore_195 rfl (Nat.le_of_ble_eq_true rfl) (by decide) (by decide) (c_Mod_isWellX h88 hI89 c cZ cE (by (first | decide +kernel | omega))) (fun z91 h92 z91Z z91E p93 => ?_)
                      obtain ⟨eh92, p93⟩ := p93
                      subst eh92
                      rw [show h88.1 117 (0 + cZ).toNat = uv from kn_nei eh88 (kn_nei eh84 uvK (by (first | decide +kernel | omega))) (by (first | decide +kernel | omega)), show h88.1 117 (64 + cZ).toNat = z21 from kn_put eh88] at p93
                      unfold bW at p93
                      refine N_callSI [.int z91] [] cs_Mod_196 d_Mod_bore_198 rfl (Nat.le_of_ble_eq_true rfl) (by decide) (by decide) (c_Mod_flag h88 z91 z91Z z91E) (fun z94 h95 z94Z z94E p96 => ?_)
                      obtain ⟨eh95, p96⟩ := p96
                      subst eh95
                      exact V_iret rfl d_Mod_bore_201 ⟨z94, rfl, ⟨hI89, f90, (by rw [lvK, pvK, bvK, uvK, xK, yK]; exact BE_of (by (first | decide +kernel | omega)) lvE oE z25E z77E hdp hm z24e z25e (Or.inl ⟨by unfold bW; omega, z77e⟩) (Or.inr ⟨by (first | decide +kernel | omega), (by rw [eh88, eh84] <;> rfl), by unfold bW; omega⟩))⟩⟩
                    ·
                      refine V_bipush (-2) d_Mod_bore_168 (by decide) ?_
                      exact V_iret rfl d_Mod_bore_170 ⟨(-2), rfl, ⟨hI, f0, (by rw [lvK, pvK, bvK, uvK, xK, yK]; exact BE_of (by (first | decide +kernel | omega)) lvE oE z25E z77E hdp hm z24e z25e (Or.inl ⟨by unfold bW; omega, z77e⟩) (Or.inl ⟨by (first | decide +kernel | omega), rfl, tc_m2⟩))⟩⟩
        ·
          refine V_iload_n 3 d_Mod_bore_42 rfl rfl ?_
          refine V_aload_n 0 d_Mod_bore_43 rfl rfl ?_
          refine V_getR fa_Mod_7 sk_116 rfl d_Mod_bore_44 ?_
          refine V_bipush 64 d_Mod_bore_47 (by decide) ?_
          refine V_iload_n 2 d_Mod_bore_49 rfl rfl ?_
          refine V_iadd tc_64 cE (by (first | decide +kernel | omega)) d_Mod_bore_50 (fun z97 z97e z97E => ?_)
          refine N_ialdK sk_117 z97E (by (first | decide +kernel | omega)) d_Mod_bore_51 bvK ?_
          refine N_isubw d_Mod_bore_52 (fun z99 z99Z z99E z99e => ?_)
          refine V_goto 57 d_Mod_bore_53 (by decide) ?_
          refine V_istore 4 [some (.ref 116), some (.int o), some (.int c), some (.int d), some (.int z99), none, none, none, none] d_Mod_bore_57 (by decide) rfl rfl ?_
          have hm : z99 = bM bv d := bM_1 bvE dE (by (first | decide +kernel | omega)) z99e
          refine V_aload_n 0 d_Mod_bore_59 rfl rfl ?_
          refine V_getR fa_Mod_7 sk_116 rfl d_Mod_bore_60 ?_
          refine V_bipush 64 d_Mod_bore_63 (by decide) ?_
          refine V_iload_n 2 d_Mod_bore_65 rfl rfl ?_
          refine V_iadd tc_64 cE (by (first | decide +kernel | omega)) d_Mod_bore_66 (fun z100 z100e z100E => ?_)
          refine N_ialdK sk_117 z100E (by (first | decide +kernel | omega)) d_Mod_bore_67 bvK ?_
          refine V_iload d_Mod_bore_68 rfl ?_
          refine N_iaddw d_Mod_bore_70 (fun z102 z102Z z102E z102e => ?_)
          have hdp : z102 = bD bv d := bD_add hm z102e
          have hdz : z102Z = dZ ∧ bvZ < dZ ∨ z102Z = bvZ ∧ dZ ≤ bvZ := bD_z hdp z102E bvE dE
          refine V_istore 5 [some (.ref 116), some (.int o), some (.int c), some (.int d), some (.int z99), some (.int z102), none, none, none] d_Mod_bore_71 (by decide) rfl rfl ?_
          refine V_aload_n 0 d_Mod_bore_73 rfl rfl ?_
          refine V_getR fa_Mod_7 sk_116 rfl d_Mod_bore_74 ?_
          refine V_bipush 80 d_Mod_bore_77 (by decide) ?_
          refine V_iload_n 1 d_Mod_bore_79 rfl rfl ?_
          refine V_iadd tc_80 oE (by (first | decide +kernel | omega)) d_Mod_bore_80 (fun z103 z103e z103E => ?_)
          refine N_ialdK sk_117 z103E (by (first | decide +kernel | omega)) d_Mod_bore_81 pvK ?_
          refine V_aload_n 0 d_Mod_bore_82 rfl rfl ?_
          refine N_getK fa_Mod_87 sk_116 rfl d_Mod_bore_83 xK ?_
          refine V_iload d_Mod_bore_86 rfl ?_
          refine N_imulw d_Mod_bore_88 (fun z105 z105Z z105E z105e => ?_)
          refine N_isubw d_Mod_bore_89 (fun z106 z106Z z106E z106e => ?_)
          refine V_istore 6 [some (.ref 116), some (.int o), some (.int c), some (.int d), some (.int z99), some (.int z102), some (.int z106), none, none] d_Mod_bore_90 (by decide) rfl rfl ?_
          refine V_aload_n 0 d_Mod_bore_92 rfl rfl ?_
          refine V_iload_n 2 d_Mod_bore_93 rfl rfl ?_
          refine N_callVI [.int c] [] cv_Mod_192 sk_116 rfl d_Mod_bore_94 rfl (Nat.le_of_ble_eq_true rfl) (by decide) (by decide) (c_Mod_isWellX h hI c cZ cE (by (first | decide +kernel | omega))) (fun z107 h108 z107Z z107E p109 => ?_)
          obtain ⟨eh108, p109⟩ := p109
          subst eh108
          rw [uvK, bvK] at p109
          unfold bW at p109
          refine V_if_ne 120 z107E d_Mod_bore_97 (by decide) (fun c110 => ?_) (fun c110 => ?_)
          ·
            replace p109 := p109.resolve_right (fun q => by (first | decide +kernel | omega))
            refine V_iconst 0 d_Mod_bore_120 (by decide) ?_
            refine V_istore 7 [some (.ref 116), some (.int o), some (.int c), some (.int d), some (.int z99), some (.int z102), some (.int z106), some (.int 0), none] d_Mod_bore_121 (by decide) rfl rfl ?_
            refine V_iload d_Mod_bore_123 rfl ?_
            refine V_if_eq 138 tc_0 d_Mod_bore_125 (by decide) (fun c111 => ?_) (fun c111 => ?_)
            ·
              refine V_iload d_Mod_bore_138 rfl ?_
              refine V_istore 8 [some (.ref 116), some (.int o), some (.int c), some (.int d), some (.int z99), some (.int z102), some (.int z106), some (.int 0), some (.int z106)] d_Mod_bore_140 (by decide) rfl rfl ?_
              refine V_aload_n 0 d_Mod_bore_142 rfl rfl ?_
              refine V_getR fa_Mod_7 sk_116 rfl d_Mod_bore_143 ?_
              refine V_bipush 48 d_Mod_bore_146 (by decide) ?_
              refine V_iload_n 2 d_Mod_bore_148 rfl rfl ?_
              refine V_iadd tc_48 cE (by (first | decide +kernel | omega)) d_Mod_bore_149 (fun z112 z112e z112E => ?_)
              refine N_ialdK sk_117 z112E (by (first | decide +kernel | omega)) d_Mod_bore_150 lvK ?_
              refine V_iload_n 1 d_Mod_bore_151 rfl rfl ?_
              refine V_icmp_ne 168 lvE oE d_Mod_bore_152 (by decide) (fun c114 => ?_) (fun c114 => ?_)
              ·
                refine V_bipush (-2) d_Mod_bore_168 (by decide) ?_
                exact V_iret rfl d_Mod_bore_170 ⟨(-2), rfl, ⟨hI, f0, (by rw [lvK, pvK, bvK, uvK, xK, yK]; exact BE_of (by (first | decide +kernel | omega)) lvE oE z106E z106E hdp hm z105e z106e (Or.inr ⟨by unfold bW; omega, rfl⟩) (Or.inl ⟨by (first | decide +kernel | omega), rfl, tc_m2⟩))⟩⟩
              ·
                refine V_iload d_Mod_bore_155 rfl ?_
                refine V_if_lt 168 z106E d_Mod_bore_157 (by decide) (fun c115 => ?_) (fun c115 => ?_)
                ·
                  refine V_bipush (-2) d_Mod_bore_168 (by decide) ?_
                  exact V_iret rfl d_Mod_bore_170 ⟨(-2), rfl, ⟨hI, f0, (by rw [lvK, pvK, bvK, uvK, xK, yK]; exact BE_of (by (first | decide +kernel | omega)) lvE oE z106E z106E hdp hm z105e z106e (Or.inr ⟨by unfold bW; omega, rfl⟩) (Or.inl ⟨by (first | decide +kernel | omega), rfl, tc_m2⟩))⟩⟩
                ·
                  refine V_iload d_Mod_bore_160 rfl ?_
                  refine V_sipush 999 d_Mod_bore_162 (by decide) ?_
                  refine V_icmp_le 171 z106E tc_999 d_Mod_bore_165 (by decide) (fun c116 => ?_) (fun c116 => ?_)
                  ·
                    refine V_aload_n 0 d_Mod_bore_171 rfl rfl ?_
                    refine V_getR fa_Mod_7 sk_116 rfl d_Mod_bore_172 ?_
                    refine V_bipush 80 d_Mod_bore_175 (by decide) ?_
                    refine V_iload_n 1 d_Mod_bore_177 rfl rfl ?_
                    refine V_iadd tc_80 oE (by (first | decide +kernel | omega)) d_Mod_bore_178 (fun z117 z117e z117E => ?_)
                    refine V_iload d_Mod_bore_179 rfl ?_
                    refine N_iast sk_117 z117E (by (first | decide +kernel | omega)) d_Mod_bore_181 (fun h118 eh118 => ?_)
                    have hI119 : Inv h118 := inv_full hI eh118 (st_lo (by (first | decide +kernel | omega)))
                    have f120 : fr S_Mod_boreX h h118 := fr_put f0 eh118 rfl
                    refine V_aload_n 0 d_Mod_bore_182 rfl rfl ?_
                    refine V_getR fa_Mod_7 sk_116 rfl d_Mod_bore_183 ?_
                    refine V_bipush 64 d_Mod_bore_186 (by decide) ?_
                    refine V_iload_n 2 d_Mod_bore_188 rfl rfl ?_
                    refine V_iadd tc_64 cE (by (first | decide +kernel | omega)) d_Mod_bore_189 (fun z121 z121e z121E => ?_)
                    refine V_iload d_Mod_bore_190 rfl ?_
                    refine N_iast sk_117 z121E (by (first | decide +kernel | omega)) d_Mod_bore_192 (fun h122 eh122 => ?_)
                    have hI123 : Inv h122 := inv_full hI119 eh122 (st_lo (by (first | decide +kernel | omega)))
                    have f124 : fr S_Mod_boreX h h122 := fr_put f120 eh122 rfl
                    refine V_aload_n 0 d_Mod_bore_193 rfl rfl ?_
                    refine V_iload_n 2 d_Mod_bore_194 rfl rfl ?_
                    refine N_callVI [.int c] [] cv_Mod_192 sk_116 rfl d_Mod_bore_195 rfl (Nat.le_of_ble_eq_true rfl) (by decide) (by decide) (c_Mod_isWellX h122 hI123 c cZ cE (by (first | decide +kernel | omega))) (fun z125 h126 z125Z z125E p127 => ?_)
                    obtain ⟨eh126, p127⟩ := p127
                    subst eh126
                    rw [show h122.1 117 (0 + cZ).toNat = uv from kn_nei eh122 (kn_nei eh118 uvK (by (first | decide +kernel | omega))) (by (first | decide +kernel | omega)), show h122.1 117 (64 + cZ).toNat = z102 from kn_put eh122] at p127
                    unfold bW at p127
                    refine N_callSI [.int z125] [] cs_Mod_196 d_Mod_bore_198 rfl (Nat.le_of_ble_eq_true rfl) (by decide) (by decide) (c_Mod_flag h122 z125 z125Z z125E) (fun z128 h129 z128Z z128E p130 => ?_)
                    obtain ⟨eh129, p130⟩ := p130
                    subst eh129
                    exact V_iret rfl d_Mod_bore_201 ⟨z128, rfl, ⟨hI123, f124, (by rw [lvK, pvK, bvK, uvK, xK, yK]; exact BE_of (by (first | decide +kernel | omega)) lvE oE z106E z106E hdp hm z105e z106e (Or.inr ⟨by unfold bW; omega, rfl⟩) (Or.inr ⟨by (first | decide +kernel | omega), (by rw [eh122, eh118] <;> rfl), by unfold bW; omega⟩))⟩⟩
                  ·
                    refine V_bipush (-2) d_Mod_bore_168 (by decide) ?_
                    exact V_iret rfl d_Mod_bore_170 ⟨(-2), rfl, ⟨hI, f0, (by rw [lvK, pvK, bvK, uvK, xK, yK]; exact BE_of (by (first | decide +kernel | omega)) lvE oE z106E z106E hdp hm z105e z106e (Or.inr ⟨by unfold bW; omega, rfl⟩) (Or.inl ⟨by (first | decide +kernel | omega), rfl, tc_m2⟩))⟩⟩
            ·
              exact absurd c111 (by decide)
          ·
            replace p109 := p109.resolve_left (fun q => by (first | decide +kernel | omega))
            refine V_aload_n 0 d_Mod_bore_100 rfl rfl ?_
            refine V_getR fa_Mod_7 sk_116 rfl d_Mod_bore_101 ?_
            refine V_iconst 0 d_Mod_bore_104 (by decide) ?_
            refine V_iload_n 2 d_Mod_bore_105 rfl rfl ?_
            refine V_iadd tc_0 cE (by (first | decide +kernel | omega)) d_Mod_bore_106 (fun z131 z131e z131E => ?_)
            refine N_ialdK sk_117 z131E (by (first | decide +kernel | omega)) d_Mod_bore_107 uvK ?_
            refine V_iload d_Mod_bore_108 rfl ?_
            refine N_callSI [.int uv, .int z102] [] cs_Mod_188 d_Mod_bore_110 rfl (Nat.le_of_ble_eq_true rfl) (by decide) (by decide) (c_Mod_isWellByX h uv uvZ uvE z102 z102Z z102E) (fun z133 h134 z133Z z133E p135 => ?_)
            obtain ⟨eh134, p135⟩ := p135
            subst eh134
            refine V_if_eq 120 z133E d_Mod_bore_113 (by decide) (fun c136 => ?_) (fun c136 => ?_)
            ·
              replace p135 := p135.resolve_left (fun q => by (first | decide +kernel | omega))
              refine V_iconst 0 d_Mod_bore_120 (by decide) ?_
              refine V_istore 7 [some (.ref 116), some (.int o), some (.int c), some (.int d), some (.int z99), some (.int z102), some (.int z106), some (.int 0), none] d_Mod_bore_121 (by decide) rfl rfl ?_
              refine V_iload d_Mod_bore_123 rfl ?_
              refine V_if_eq 138 tc_0 d_Mod_bore_125 (by decide) (fun c137 => ?_) (fun c137 => ?_)
              ·
                refine V_iload d_Mod_bore_138 rfl ?_
                refine V_istore 8 [some (.ref 116), some (.int o), some (.int c), some (.int d), some (.int z99), some (.int z102), some (.int z106), some (.int 0), some (.int z106)] d_Mod_bore_140 (by decide) rfl rfl ?_
                refine V_aload_n 0 d_Mod_bore_142 rfl rfl ?_
                refine V_getR fa_Mod_7 sk_116 rfl d_Mod_bore_143 ?_
                refine V_bipush 48 d_Mod_bore_146 (by decide) ?_
                refine V_iload_n 2 d_Mod_bore_148 rfl rfl ?_
                refine V_iadd tc_48 cE (by (first | decide +kernel | omega)) d_Mod_bore_149 (fun z138 z138e z138E => ?_)
                refine N_ialdK sk_117 z138E (by (first | decide +kernel | omega)) d_Mod_bore_150 lvK ?_
                refine V_iload_n 1 d_Mod_bore_151 rfl rfl ?_
                refine V_icmp_ne 168 lvE oE d_Mod_bore_152 (by decide) (fun c140 => ?_) (fun c140 => ?_)
                ·
                  refine V_bipush (-2) d_Mod_bore_168 (by decide) ?_
                  exact V_iret rfl d_Mod_bore_170 ⟨(-2), rfl, ⟨hI, f0, (by rw [lvK, pvK, bvK, uvK, xK, yK]; exact BE_of (by (first | decide +kernel | omega)) lvE oE z106E z106E hdp hm z105e z106e (Or.inr ⟨by unfold bW; omega, rfl⟩) (Or.inl ⟨by (first | decide +kernel | omega), rfl, tc_m2⟩))⟩⟩
                ·
                  refine V_iload d_Mod_bore_155 rfl ?_
                  refine V_if_lt 168 z106E d_Mod_bore_157 (by decide) (fun c141 => ?_) (fun c141 => ?_)
                  ·
                    refine V_bipush (-2) d_Mod_bore_168 (by decide) ?_
                    exact V_iret rfl d_Mod_bore_170 ⟨(-2), rfl, ⟨hI, f0, (by rw [lvK, pvK, bvK, uvK, xK, yK]; exact BE_of (by (first | decide +kernel | omega)) lvE oE z106E z106E hdp hm z105e z106e (Or.inr ⟨by unfold bW; omega, rfl⟩) (Or.inl ⟨by (first | decide +kernel | omega), rfl, tc_m2⟩))⟩⟩
                  ·
                    refine V_iload d_Mod_bore_160 rfl ?_
                    refine V_sipush 999 d_Mod_bore_162 (by decide) ?_
                    refine V_icmp_le 171 z106E tc_999 d_Mod_bore_165 (by decide) (fun c142 => ?_) (fun c142 => ?_)
                    ·
                      refine V_aload_n 0 d_Mod_bore_171 rfl rfl ?_
                      refine V_getR fa_Mod_7 sk_116 rfl d_Mod_bore_172 ?_
                      refine V_bipush 80 d_Mod_bore_175 (by decide) ?_
                      refine V_iload_n 1 d_Mod_bore_177 rfl rfl ?_
                      refine V_iadd tc_80 oE (by (first | decide +kernel | omega)) d_Mod_bore_178 (fun z143 z143e z143E => ?_)
                      refine V_iload d_Mod_bore_179 rfl ?_
                      refine N_iast sk_117 z143E (by (first | decide +kernel | omega)) d_Mod_bore_181 (fun h144 eh144 => ?_)
                      have hI145 : Inv h144 := inv_full hI eh144 (st_lo (by (first | decide +kernel | omega)))
                      have f146 : fr S_Mod_boreX h h144 := fr_put f0 eh144 rfl
                      refine V_aload_n 0 d_Mod_bore_182 rfl rfl ?_
                      refine V_getR fa_Mod_7 sk_116 rfl d_Mod_bore_183 ?_
                      refine V_bipush 64 d_Mod_bore_186 (by decide) ?_
                      refine V_iload_n 2 d_Mod_bore_188 rfl rfl ?_
                      refine V_iadd tc_64 cE (by (first | decide +kernel | omega)) d_Mod_bore_189 (fun z147 z147e z147E => ?_)
                      refine V_iload d_Mod_bore_190 rfl ?_
                      refine N_iast sk_117 z147E (by (first | decide +kernel | omega)) d_Mod_bore_192 (fun h148 eh148 => ?_)
                      have hI149 : Inv h148 := inv_full hI145 eh148 (st_lo (by (first | decide +kernel | omega)))
                      have f150 : fr S_Mod_boreX h h148 := fr_put f146 eh148 rfl
                      refine V_aload_n 0 d_Mod_bore_193 rfl rfl ?_
                      refine V_iload_n 2 d_Mod_bore_194 rfl rfl ?_
                      refine N_callVI [.int c] [] cv_Mod_192 sk_116 rfl d_Mod_bore_195 rfl (Nat.le_of_ble_eq_true rfl) (by decide) (by decide) (c_Mod_isWellX h148 hI149 c cZ cE (by (first | decide +kernel | omega))) (fun z151 h152 z151Z z151E p153 => ?_)
                      obtain ⟨eh152, p153⟩ := p153
                      subst eh152
                      rw [show h148.1 117 (0 + cZ).toNat = uv from kn_nei eh148 (kn_nei eh144 uvK (by (first | decide +kernel | omega))) (by (first | decide +kernel | omega)), show h148.1 117 (64 + cZ).toNat = z102 from kn_put eh148] at p153
                      unfold bW at p153
                      refine N_callSI [.int z151] [] cs_Mod_196 d_Mod_bore_198 rfl (Nat.le_of_ble_eq_true rfl) (by decide) (by decide) (c_Mod_flag h148 z151 z151Z z151E) (fun z154 h155 z154Z z154E p156 => ?_)
                      obtain ⟨eh155, p156⟩ := p156
                      subst eh155
                      exact V_iret rfl d_Mod_bore_201 ⟨z154, rfl, ⟨hI149, f150, (by rw [lvK, pvK, bvK, uvK, xK, yK]; exact BE_of (by (first | decide +kernel | omega)) lvE oE z106E z106E hdp hm z105e z106e (Or.inr ⟨by unfold bW; omega, rfl⟩) (Or.inr ⟨by (first | decide +kernel | omega), (by rw [eh148, eh144] <;> rfl), by unfold bW; omega⟩))⟩⟩
                    ·
                      refine V_bipush (-2) d_Mod_bore_168 (by decide) ?_
                      exact V_iret rfl d_Mod_bore_170 ⟨(-2), rfl, ⟨hI, f0, (by rw [lvK, pvK, bvK, uvK, xK, yK]; exact BE_of (by (first | decide +kernel | omega)) lvE oE z106E z106E hdp hm z105e z106e (Or.inr ⟨by unfold bW; omega, rfl⟩) (Or.inl ⟨by (first | decide +kernel | omega), rfl, tc_m2⟩))⟩⟩
              ·
                exact absurd c137 (by decide)
            ·
              replace p135 := p135.resolve_right (fun q => by (first | decide +kernel | omega))
              refine V_iconst 1 d_Mod_bore_116 (by decide) ?_
              refine V_goto 121 d_Mod_bore_117 (by decide) ?_
              refine V_istore 7 [some (.ref 116), some (.int o), some (.int c), some (.int d), some (.int z99), some (.int z102), some (.int z106), some (.int 1), none] d_Mod_bore_121 (by decide) rfl rfl ?_
              refine V_iload d_Mod_bore_123 rfl ?_
              refine V_if_eq 138 tc_1 d_Mod_bore_125 (by decide) (fun c157 => ?_) (fun c157 => ?_)
              ·
                exact absurd c157 (by decide)
              ·
                refine V_iload d_Mod_bore_128 rfl ?_
                refine V_aload_n 0 d_Mod_bore_130 rfl rfl ?_
                refine N_getK fa_Mod_90 sk_116 rfl d_Mod_bore_131 yK ?_
                refine N_iaddw d_Mod_bore_134 (fun z158 z158Z z158E z158e => ?_)
                refine V_goto 140 d_Mod_bore_135 (by decide) ?_
                refine V_istore 8 [some (.ref 116), some (.int o), some (.int c), some (.int d), some (.int z99), some (.int z102), some (.int z106), some (.int 1), some (.int z158)] d_Mod_bore_140 (by decide) rfl rfl ?_
                refine V_aload_n 0 d_Mod_bore_142 rfl rfl ?_
                refine V_getR fa_Mod_7 sk_116 rfl d_Mod_bore_143 ?_
                refine V_bipush 48 d_Mod_bore_146 (by decide) ?_
                refine V_iload_n 2 d_Mod_bore_148 rfl rfl ?_
                refine V_iadd tc_48 cE (by (first | decide +kernel | omega)) d_Mod_bore_149 (fun z159 z159e z159E => ?_)
                refine N_ialdK sk_117 z159E (by (first | decide +kernel | omega)) d_Mod_bore_150 lvK ?_
                refine V_iload_n 1 d_Mod_bore_151 rfl rfl ?_
                refine V_icmp_ne 168 lvE oE d_Mod_bore_152 (by decide) (fun c161 => ?_) (fun c161 => ?_)
                ·
                  refine V_bipush (-2) d_Mod_bore_168 (by decide) ?_
                  exact V_iret rfl d_Mod_bore_170 ⟨(-2), rfl, ⟨hI, f0, (by rw [lvK, pvK, bvK, uvK, xK, yK]; exact BE_of (by (first | decide +kernel | omega)) lvE oE z106E z158E hdp hm z105e z106e (Or.inl ⟨by unfold bW; omega, z158e⟩) (Or.inl ⟨by (first | decide +kernel | omega), rfl, tc_m2⟩))⟩⟩
                ·
                  refine V_iload d_Mod_bore_155 rfl ?_
                  refine V_if_lt 168 z106E d_Mod_bore_157 (by decide) (fun c162 => ?_) (fun c162 => ?_)
                  ·
                    refine V_bipush (-2) d_Mod_bore_168 (by decide) ?_
                    exact V_iret rfl d_Mod_bore_170 ⟨(-2), rfl, ⟨hI, f0, (by rw [lvK, pvK, bvK, uvK, xK, yK]; exact BE_of (by (first | decide +kernel | omega)) lvE oE z106E z158E hdp hm z105e z106e (Or.inl ⟨by unfold bW; omega, z158e⟩) (Or.inl ⟨by (first | decide +kernel | omega), rfl, tc_m2⟩))⟩⟩
                  ·
                    refine V_iload d_Mod_bore_160 rfl ?_
                    refine V_sipush 999 d_Mod_bore_162 (by decide) ?_
                    refine V_icmp_le 171 z158E tc_999 d_Mod_bore_165 (by decide) (fun c163 => ?_) (fun c163 => ?_)
                    ·
                      refine V_aload_n 0 d_Mod_bore_171 rfl rfl ?_
                      refine V_getR fa_Mod_7 sk_116 rfl d_Mod_bore_172 ?_
                      refine V_bipush 80 d_Mod_bore_175 (by decide) ?_
                      refine V_iload_n 1 d_Mod_bore_177 rfl rfl ?_
                      refine V_iadd tc_80 oE (by (first | decide +kernel | omega)) d_Mod_bore_178 (fun z164 z164e z164E => ?_)
                      refine V_iload d_Mod_bore_179 rfl ?_
                      refine N_iast sk_117 z164E (by (first | decide +kernel | omega)) d_Mod_bore_181 (fun h165 eh165 => ?_)
                      have hI166 : Inv h165 := inv_full hI eh165 (st_lo (by (first | decide +kernel | omega)))
                      have f167 : fr S_Mod_boreX h h165 := fr_put f0 eh165 rfl
                      refine V_aload_n 0 d_Mod_bore_182 rfl rfl ?_
                      refine V_getR fa_Mod_7 sk_116 rfl d_Mod_bore_183 ?_
                      refine V_bipush 64 d_Mod_bore_186 (by decide) ?_
                      refine V_iload_n 2 d_Mod_bore_188 rfl rfl ?_
                      refine V_iadd tc_64 cE (by (first | decide +kernel | omega)) d_Mod_bore_189 (fun z168 z168e z168E => ?_)
                      refine V_iload d_Mod_bore_190 rfl ?_
                      refine N_iast sk_117 z168E (by (first | decide +kernel | omega)) d_Mod_bore_192 (fun h169 eh169 => ?_)
                      have hI170 : Inv h169 := inv_full hI166 eh169 (st_lo (by (first | decide +kernel | omega)))
                      have f171 : fr S_Mod_boreX h h169 := fr_put f167 eh169 rfl
                      refine V_aload_n 0 d_Mod_bore_193 rfl rfl ?_
                      refine V_iload_n 2 d_Mod_bore_194 rfl rfl ?_
                      refine N_callVI [.int c] [] cv_Mod_192 sk_116 rfl d_Mod_bore_195 rfl (Nat.le_of_ble_eq_true rfl) (by decide) (by decide) (c_Mod_isWellX h169 hI170 c cZ cE (by (first | decide +kernel | omega))) (fun z172 h173 z172Z z172E p174 => ?_)
                      obtain ⟨eh173, p174⟩ := p174
                      subst eh173
                      rw [show h169.1 117 (0 + cZ).toNat = uv from kn_nei eh169 (kn_nei eh165 uvK (by (first | decide +kernel | omega))) (by (first | decide +kernel | omega)), show h169.1 117 (64 + cZ).toNat = z102 from kn_put eh169] at p174
                      unfold bW at p174
                      refine N_callSI [.int z172] [] cs_Mod_196 d_Mod_bore_198 rfl (Nat.le_of_ble_eq_true rfl) (by decide) (by decide) (c_Mod_flag h169 z172 z172Z z172E) (fun z175 h176 z175Z z175E p177 => ?_)
                      obtain ⟨eh176, p177⟩ := p177
                      subst eh176
                      exact V_iret rfl d_Mod_bore_201 ⟨z175, rfl, ⟨hI170, f171, (by rw [lvK, pvK, bvK, uvK, xK, yK]; exact BE_of (by (first | decide +kernel | omega)) lvE oE z106E z158E hdp hm z105e z106e (Or.inl ⟨by unfold bW; omega, z158e⟩) (Or.inr ⟨by (first | decide +kernel | omega), (by rw [eh169, eh165] <;> rfl), by unfold bW; omega⟩))⟩⟩
                    ·
                      refine V_bipush (-2) d_Mod_bore_168 (by decide) ?_
                      exact V_iret rfl d_Mod_bore_170 ⟨(-2), rfl, ⟨hI, f0, (by rw [lvK, pvK, bvK, uvK, xK, yK]; exact BE_of (by (first | decide +kernel | omega)) lvE oE z106E z158E hdp hm z105e z106e (Or.inl ⟨by unfold bW; omega, z158e⟩) (Or.inl ⟨by (first | decide +kernel | omega), rfl, tc_m2⟩))⟩⟩
      ·
        replace p14 := p14.resolve_left (fun q => by (first | decide +kernel | omega))
        refine V_iconst (-1) d_Mod_bore_27 (by decide) ?_
        exact V_iret rfl d_Mod_bore_28 ⟨(-1), rfl, ⟨hI, f0, (Or.inl ⟨by (first | decide +kernel | omega), rfl, tc_m1⟩)⟩⟩
def S_Rod_wetX : List (Nat × Option Nat) := [(2, none)]
abbrev q_Rod_wetX (h : Hp) (c : Int32) (cZ : Int) (v : Int32) (vZ : Int) (w : Int32) (wZ : Int) (g : Int32) (gZ : Int) : Option Value → Hp → Prop := pInt (fun r h' => Inv h' ∧ fr S_Rod_wetX h h' ∧ (Ewt h h' 2 cZ.toNat (0 ≤ cZ ∧ cZ < wZ * gZ ∧ 0 ≤ vZ ∧ vZ ≤ 9) (0 < (h.1 6 cZ.toNat).toInt) v r))
set_option maxRecDepth 100000 in
theorem c_Rod_wetX (h : Hp) (hI : Inv h) (c : Int32) (cZ : Int) (cE : c.toInt = cZ) (v : Int32) (vZ : Int) (vE : v.toInt = vZ) (w : Int32) (wZ : Int) (wE : w.toInt = wZ) (wK : h.1 1 0 = w) (g : Int32) (gZ : Int) (gE : g.toInt = gZ) (gK : h.1 1 1 = g) : Ct y_Rod_wet b_Rod_wet 5 (some .int) 2 41 [.ref 85, .int c, .int v] h (q_Rod_wetX h c cZ v vZ w wZ g gZ) := by
  refine ct_ow R_Rod [some (.ref 85), some (.int c), some (.int v), none, none] rfl (by decide) rfl (Nat.le_of_ble_eq_true rfl) ?_
  have f0 : fr S_Rod_wetX h h := fr_rf
  have g1 : 2 ≤ wZ ∧ wZ ≤ 4 := inv_at hI wE wK.symm rfl
  have g2 : 2 ≤ gZ ∧ gZ ≤ 4 := inv_at hI gE gK.symm rfl
  obtain ⟨bv, bvZ, bvE, bvK⟩ : ∃ (y : Int32) (Y : Int), y.toInt = Y ∧ h.1 6 (cZ).toNat = y := ⟨_, _, rfl, rfl⟩
  refine V_aload_n 0 d_Rod_wet_0 rfl rfl ?_
  refine V_getR fa_Rod_12 sk_85 rfl d_Rod_wet_1 ?_
  refine V_getR fa_Rod_91 sk_0 rfl d_Rod_wet_4 ?_
  refine V_astore_n 3 [some (.ref 85), some (.int c), some (.int v), some (.ref 1), none] d_Rod_wet_7 rfl (by decide) rfl rfl ?_
  refine V_aload_n 3 d_Rod_wet_8 rfl rfl ?_
  refine V_iload_n 1 d_Rod_wet_9 rfl rfl ?_
  refine N_callVI [.int c] [] cv_Rod_124 sk_1 rfl d_Rod_wet_10 rfl (Nat.le_of_ble_eq_true rfl) (by decide) (by decide) (c_Land_hasX_0 h hI c cZ cE w wZ wE wK g gZ gE gK) (fun z3 h4 z3Z z3E p5 => ?_)
  obtain ⟨eh4, p5⟩ := p5
  subst eh4
  refine V_if_eq 26 z3E d_Rod_wet_13 (by decide) (fun c6 => ?_) (fun c6 => ?_)
  ·
    replace p5 := p5.resolve_left (fun q => by (first | decide +kernel | omega))
    refine V_iconst (-1) d_Rod_wet_26 (by decide) ?_
    exact V_iret rfl d_Rod_wet_27 ⟨(-1), rfl, ⟨hI, f0, (Or.inr (Or.inr ⟨by (first | decide +kernel | omega), rfl, tc_m1⟩))⟩⟩
  ·
    replace p5 := p5.resolve_right (fun q => by (first | decide +kernel | omega))
    refine V_iload_n 2 d_Rod_wet_16 rfl rfl ?_
    refine V_if_lt 26 vE d_Rod_wet_17 (by decide) (fun c7 => ?_) (fun c7 => ?_)
    ·
      refine V_iconst (-1) d_Rod_wet_26 (by decide) ?_
      exact V_iret rfl d_Rod_wet_27 ⟨(-1), rfl, ⟨hI, f0, (Or.inr (Or.inr ⟨by (first | decide +kernel | omega), rfl, tc_m1⟩))⟩⟩
    ·
      refine V_iload_n 2 d_Rod_wet_20 rfl rfl ?_
      refine V_bipush 9 d_Rod_wet_21 (by decide) ?_
      refine V_icmp_le 28 vE tc_9 d_Rod_wet_23 (by decide) (fun c8 => ?_) (fun c8 => ?_)
      ·
        refine V_aload_n 3 d_Rod_wet_28 rfl rfl ?_
        refine V_getR fa_Rod_141 sk_1 rfl d_Rod_wet_29 ?_
        refine V_iload_n 1 d_Rod_wet_32 rfl rfl ?_
        refine N_ialdK sk_6 cE (by (first | decide +kernel | omega)) d_Rod_wet_33 bvK ?_
        refine V_if_le 40 bvE d_Rod_wet_34 (by decide) (fun c10 => ?_) (fun c10 => ?_)
        ·
          refine V_aload_n 3 d_Rod_wet_40 rfl rfl ?_
          refine V_getR fa_Rod_128 sk_1 rfl d_Rod_wet_41 ?_
          refine V_iload_n 1 d_Rod_wet_44 rfl rfl ?_
          refine N_iald sk_2 cE (by (first | decide +kernel | omega)) d_Rod_wet_45 (fun z11 z11Z z11E z11e => ?_)
          refine V_istore 4 [some (.ref 85), some (.int c), some (.int v), some (.ref 1), some (.int z11)] d_Rod_wet_46 (by decide) rfl rfl ?_
          refine V_aload_n 3 d_Rod_wet_48 rfl rfl ?_
          refine V_getR fa_Rod_128 sk_1 rfl d_Rod_wet_49 ?_
          refine V_iload_n 1 d_Rod_wet_52 rfl rfl ?_
          refine V_iload_n 2 d_Rod_wet_53 rfl rfl ?_
          refine N_iast sk_2 cE (by (first | decide +kernel | omega)) d_Rod_wet_54 (fun h12 eh12 => ?_)
          have hI13 : Inv h12 := inv_full hI eh12 rfl
          have f14 : fr S_Rod_wetX h h12 := fr_put f0 eh12 rfl
          refine V_iload d_Rod_wet_55 rfl ?_
          exact V_iret rfl d_Rod_wet_57 ⟨z11, rfl, ⟨hI13, f14, (Or.inl ⟨by (first | decide +kernel | omega), by rw [bvK]; omega, (by rw [eh12] <;> rfl), z11e⟩)⟩⟩
        ·
          refine V_bipush (-2) d_Rod_wet_37 (by decide) ?_
          exact V_iret rfl d_Rod_wet_39 ⟨(-2), rfl, ⟨hI, f0, (Or.inr (Or.inl ⟨by (first | decide +kernel | omega), by rw [bvK]; omega, rfl, tc_m2⟩))⟩⟩
      ·
        refine V_iconst (-1) d_Rod_wet_26 (by decide) ?_
        exact V_iret rfl d_Rod_wet_27 ⟨(-1), rfl, ⟨hI, f0, (Or.inr (Or.inr ⟨by (first | decide +kernel | omega), rfl, tc_m1⟩))⟩⟩
def S_Mod_wetX : List (Nat × Option Nat) := [(117, none)]
abbrev q_Mod_wetX (h : Hp) (c : Int32) (cZ : Int) (v : Int32) (vZ : Int) (w : Int32) (wZ : Int) (g : Int32) (gZ : Int) : Option Value → Hp → Prop := pInt (fun r h' => Inv h' ∧ fr S_Mod_wetX h h' ∧ (Ewt h h' 117 (0 + cZ).toNat (0 ≤ cZ ∧ cZ < wZ * gZ ∧ 0 ≤ vZ ∧ vZ ≤ 9) (0 < (h.1 117 (64 + cZ).toNat).toInt) v r))
set_option maxRecDepth 100000 in
theorem c_Mod_wetX (h : Hp) (hI : Inv h) (c : Int32) (cZ : Int) (cE : c.toInt = cZ) (v : Int32) (vZ : Int) (vE : v.toInt = vZ) (w : Int32) (wZ : Int) (wE : w.toInt = wZ) (wK : h.1 116 2 = w) (g : Int32) (gZ : Int) (gE : g.toInt = gZ) (gK : h.1 116 3 = g) : Ct y_Mod_wet b_Mod_wet 3 (some .int) 2 46 [.ref 116, .int c, .int v] h (q_Mod_wetX h c cZ v vZ w wZ g gZ) := by
  refine ct_ow R_Mod [some (.ref 116), some (.int c), some (.int v)] rfl (by decide) rfl (Nat.le_of_ble_eq_true rfl) ?_
  have f0 : fr S_Mod_wetX h h := fr_rf
  have g1 : 2 ≤ wZ ∧ wZ ≤ 4 := inv_at hI wE wK.symm rfl
  have g2 : 2 ≤ gZ ∧ gZ ≤ 4 := inv_at hI gE gK.symm rfl
  obtain ⟨bv, bvZ, bvE, bvK⟩ : ∃ (y : Int32) (Y : Int), y.toInt = Y ∧ h.1 117 ((64 + cZ)).toNat = y := ⟨_, _, rfl, rfl⟩
  refine V_aload_n 0 d_Mod_wet_0 rfl rfl ?_
  refine V_iload_n 1 d_Mod_wet_1 rfl rfl ?_
  refine N_callVI [.int c] [] cv_Mod_200 sk_116 rfl d_Mod_wet_2 rfl (Nat.le_of_ble_eq_true rfl) (by decide) (by decide) (c_Mod_isCellX h hI c cZ cE w wZ wE wK g gZ gE gK) (fun z3 h4 z3Z z3E p5 => ?_)
  obtain ⟨eh4, p5⟩ := p5
  subst eh4
  refine V_if_eq 20 z3E d_Mod_wet_5 (by decide) (fun c6 => ?_) (fun c6 => ?_)
  ·
    replace p5 := p5.resolve_left (fun q => by (first | decide +kernel | omega))
    refine V_iconst (-1) d_Mod_wet_20 (by decide) ?_
    exact V_iret rfl d_Mod_wet_21 ⟨(-1), rfl, ⟨hI, f0, (Or.inr (Or.inr ⟨by (first | decide +kernel | omega), rfl, tc_m1⟩))⟩⟩
  ·
    replace p5 := p5.resolve_right (fun q => by (first | decide +kernel | omega))
    refine V_iload_n 2 d_Mod_wet_8 rfl rfl ?_
    refine V_i2l d_Mod_wet_9 (fun z7 z7e z7E => ?_)
    have z7F : z7.toInt = vZ := z7E.trans vE
    refine V_lconst 0 d_Mod_wet_10 (by decide) ?_
    refine V_ldc2 d_Mod_wet_11 wl_Mod_208 ?_
    refine N_callSI [.long z7, .long 0, .long 9] [] cs_Mod_95 d_Mod_wet_14 rfl (Nat.le_of_ble_eq_true rfl) (by decide) (by decide) (c_Mod_in h z7 vZ z7F 0 0 tl_0 9 9 tl_9) (fun z8 h9 z8Z z8E p10 => ?_)
    obtain ⟨eh9, p10⟩ := p10
    subst eh9
    refine V_if_ne 22 z8E d_Mod_wet_17 (by decide) (fun c11 => ?_) (fun c11 => ?_)
    ·
      replace p10 := p10.resolve_right (fun q => by (first | decide +kernel | omega))
      refine V_aload_n 0 d_Mod_wet_22 rfl rfl ?_
      refine V_getR fa_Mod_7 sk_116 rfl d_Mod_wet_23 ?_
      refine V_bipush 64 d_Mod_wet_26 (by decide) ?_
      refine V_iload_n 1 d_Mod_wet_28 rfl rfl ?_
      refine V_iadd tc_64 cE (by (first | decide +kernel | omega)) d_Mod_wet_29 (fun z12 z12e z12E => ?_)
      refine N_ialdK sk_117 z12E (by (first | decide +kernel | omega)) d_Mod_wet_30 bvK ?_
      refine V_if_le 39 bvE d_Mod_wet_31 (by decide) (fun c14 => ?_) (fun c14 => ?_)
      ·
        refine V_aload_n 0 d_Mod_wet_39 rfl rfl ?_
        refine V_iconst 0 d_Mod_wet_40 (by decide) ?_
        refine V_iload_n 1 d_Mod_wet_41 rfl rfl ?_
        refine V_iadd tc_0 cE (by (first | decide +kernel | omega)) d_Mod_wet_42 (fun z15 z15e z15E => ?_)
        refine V_iload_n 2 d_Mod_wet_43 rfl rfl ?_
        refine N_callVI [.int z15, .int v] [] cv_Mod_210 sk_116 rfl d_Mod_wet_44 rfl (Nat.le_of_ble_eq_true rfl) (by decide) (by decide) (c_Mod_becomesX h hI z15 ((0 + cZ)) z15E v vZ vE (by (first | decide +kernel | omega)) (stOk_lo vE (by (first | decide +kernel | omega)))) (fun z16 h17 z16Z z16E p18 => ?_)
        obtain ⟨hI19, fh17, p18⟩ := p18
        have f20 : fr S_Mod_wetX h h17 := fr_call f0 fh17 rfl
        exact V_iret rfl d_Mod_wet_47 ⟨z16, rfl, ⟨hI19, f20, (Or.inl ⟨by (first | decide +kernel | omega), by rw [bvK]; omega, p18.1, p18.2⟩)⟩⟩
      ·
        refine V_bipush (-2) d_Mod_wet_34 (by decide) ?_
        refine V_goto 47 d_Mod_wet_36 (by decide) ?_
        exact V_iret rfl d_Mod_wet_47 ⟨(-2), rfl, ⟨hI, f0, (Or.inr (Or.inl ⟨by (first | decide +kernel | omega), by rw [bvK]; omega, rfl, tc_m2⟩))⟩⟩
    ·
      replace p10 := p10.resolve_left (fun q => by (first | decide +kernel | omega))
      refine V_iconst (-1) d_Mod_wet_20 (by decide) ?_
      exact V_iret rfl d_Mod_wet_21 ⟨(-1), rfl, ⟨hI, f0, (Or.inr (Or.inr ⟨by (first | decide +kernel | omega), rfl, tc_m1⟩))⟩⟩
def S_Rod_fundX : List (Nat × Option Nat) := [(8, none)]
abbrev q_Rod_fundX (h : Hp) (o : Int32) (oZ : Int) (v : Int32) (vZ : Int) : Option Value → Hp → Prop := pInt (fun r h' => Inv h' ∧ fr S_Rod_fundX h h' ∧ (Er h h' 8 oZ.toNat (0 ≤ oZ ∧ oZ ≤ 3 ∧ 0 ≤ vZ ∧ vZ ≤ 999) (fun x => x = v) r))
set_option maxRecDepth 100000 in
theorem c_Rod_fundX (h : Hp) (hI : Inv h) (o : Int32) (oZ : Int) (oE : o.toInt = oZ) (v : Int32) (vZ : Int) (vE : v.toInt = vZ) : Ct y_Rod_fund b_Rod_fund 4 (some .int) 1 20 [.ref 85, .int o, .int v] h (q_Rod_fundX h o oZ v vZ) := by
  refine ct_ow R_Rod [some (.ref 85), some (.int o), some (.int v), none] rfl (by decide) rfl (Nat.le_of_ble_eq_true rfl) ?_
  have f0 : fr S_Rod_fundX h h := fr_rf
  refine V_iload_n 1 d_Rod_fund_0 rfl rfl ?_
  refine N_callSI [.int o] [] cs_Rod_151 d_Rod_fund_1 rfl (Nat.le_of_ble_eq_true rfl) (by decide) (by decide) (c_Rod_isOwner h o oZ oE) (fun z1 h2 z1Z z1E p3 => ?_)
  obtain ⟨eh2, p3⟩ := p3
  subst eh2
  refine V_if_eq 18 z1E d_Rod_fund_4 (by decide) (fun c4 => ?_) (fun c4 => ?_)
  ·
    replace p3 := p3.resolve_left (fun q => by (first | decide +kernel | omega))
    refine V_iconst (-1) d_Rod_fund_18 (by decide) ?_
    exact V_iret rfl d_Rod_fund_19 ⟨(-1), rfl, ⟨hI, f0, (Or.inr ⟨by (first | decide +kernel | omega), rfl, tc_m1⟩)⟩⟩
  ·
    replace p3 := p3.resolve_right (fun q => by (first | decide +kernel | omega))
    refine V_iload_n 2 d_Rod_fund_7 rfl rfl ?_
    refine V_if_lt 18 vE d_Rod_fund_8 (by decide) (fun c5 => ?_) (fun c5 => ?_)
    ·
      refine V_iconst (-1) d_Rod_fund_18 (by decide) ?_
      exact V_iret rfl d_Rod_fund_19 ⟨(-1), rfl, ⟨hI, f0, (Or.inr ⟨by (first | decide +kernel | omega), rfl, tc_m1⟩)⟩⟩
    ·
      refine V_iload_n 2 d_Rod_fund_11 rfl rfl ?_
      refine V_sipush 999 d_Rod_fund_12 (by decide) ?_
      refine V_icmp_le 20 vE tc_999 d_Rod_fund_15 (by decide) (fun c6 => ?_) (fun c6 => ?_)
      ·
        refine V_aload_n 0 d_Rod_fund_20 rfl rfl ?_
        refine V_getR fa_Rod_12 sk_85 rfl d_Rod_fund_21 ?_
        refine V_getR fa_Rod_115 sk_0 rfl d_Rod_fund_24 ?_
        refine V_getR fa_Rod_154 sk_7 rfl d_Rod_fund_27 ?_
        refine V_iload_n 1 d_Rod_fund_30 rfl rfl ?_
        refine N_iald sk_8 oE (by (first | decide +kernel | omega)) d_Rod_fund_31 (fun z7 z7Z z7E z7e => ?_)
        refine V_istore_n 3 [some (.ref 85), some (.int o), some (.int v), some (.int z7)] d_Rod_fund_32 rfl (by decide) rfl rfl ?_
        refine V_aload_n 0 d_Rod_fund_33 rfl rfl ?_
        refine V_getR fa_Rod_12 sk_85 rfl d_Rod_fund_34 ?_
        refine V_getR fa_Rod_115 sk_0 rfl d_Rod_fund_37 ?_
        refine V_getR fa_Rod_154 sk_7 rfl d_Rod_fund_40 ?_
        refine V_iload_n 1 d_Rod_fund_43 rfl rfl ?_
        refine V_iload_n 2 d_Rod_fund_44 rfl rfl ?_
        refine N_iast sk_8 oE (by (first | decide +kernel | omega)) d_Rod_fund_45 (fun h8 eh8 => ?_)
        have hI9 : Inv h8 := inv_full hI eh8 rfl
        have f10 : fr S_Rod_fundX h h8 := fr_put f0 eh8 rfl
        refine V_iload_n 3 d_Rod_fund_46 rfl rfl ?_
        exact V_iret rfl d_Rod_fund_47 ⟨z7, rfl, ⟨hI9, f10, (Or.inl ⟨by (first | decide +kernel | omega), v, rfl, (by rw [eh8] <;> rfl), z7e⟩)⟩⟩
      ·
        refine V_iconst (-1) d_Rod_fund_18 (by decide) ?_
        exact V_iret rfl d_Rod_fund_19 ⟨(-1), rfl, ⟨hI, f0, (Or.inr ⟨by (first | decide +kernel | omega), rfl, tc_m1⟩)⟩⟩
def S_Mod_fundX : List (Nat × Option Nat) := [(117, none)]
abbrev q_Mod_fundX (h : Hp) (o : Int32) (oZ : Int) (v : Int32) (vZ : Int) : Option Value → Hp → Prop := pInt (fun r h' => Inv h' ∧ fr S_Mod_fundX h h' ∧ (Er h h' 117 (80 + oZ).toNat (0 ≤ oZ ∧ oZ ≤ 3 ∧ 0 ≤ vZ ∧ vZ ≤ 999) (fun x => x = v) r))
set_option maxRecDepth 100000 in
theorem c_Mod_fundX (h : Hp) (hI : Inv h) (o : Int32) (oZ : Int) (oE : o.toInt = oZ) (v : Int32) (vZ : Int) (vE : v.toInt = vZ) : Ct y_Mod_fund b_Mod_fund 3 (some .int) 2 45 [.ref 116, .int o, .int v] h (q_Mod_fundX h o oZ v vZ) := by
  refine ct_ow R_Mod [some (.ref 116), some (.int o), some (.int v)] rfl (by decide) rfl (Nat.le_of_ble_eq_true rfl) ?_
  have f0 : fr S_Mod_fundX h h := fr_rf
  refine V_iload_n 1 d_Mod_fund_0 rfl rfl ?_
  refine N_callSI [.int o] [] cs_Mod_205 d_Mod_fund_1 rfl (Nat.le_of_ble_eq_true rfl) (by decide) (by decide) (c_Mod_isOwner h o oZ oE) (fun z1 h2 z1Z z1E p3 => ?_)
  obtain ⟨eh2, p3⟩ := p3
  subst eh2
  refine V_if_eq 31 z1E d_Mod_fund_4 (by decide) (fun c4 => ?_) (fun c4 => ?_)
  ·
    replace p3 := p3.resolve_left (fun q => by (first | decide +kernel | omega))
    refine V_iconst (-1) d_Mod_fund_31 (by decide) ?_
    exact V_iret rfl d_Mod_fund_32 ⟨(-1), rfl, ⟨hI, f0, (Or.inr ⟨by (first | decide +kernel | omega), rfl, tc_m1⟩)⟩⟩
  ·
    replace p3 := p3.resolve_right (fun q => by (first | decide +kernel | omega))
    refine V_iload_n 2 d_Mod_fund_7 rfl rfl ?_
    refine V_i2l d_Mod_fund_8 (fun z5 z5e z5E => ?_)
    have z5F : z5.toInt = vZ := z5E.trans vE
    refine V_lconst 0 d_Mod_fund_9 (by decide) ?_
    refine V_ldc2 d_Mod_fund_10 wl_Mod_215 ?_
    refine N_callSI [.long z5, .long 0, .long 999] [] cs_Mod_95 d_Mod_fund_13 rfl (Nat.le_of_ble_eq_true rfl) (by decide) (by decide) (c_Mod_in h z5 vZ z5F 0 0 tl_0 999 999 tl_999) (fun z6 h7 z6Z z6E p8 => ?_)
    obtain ⟨eh7, p8⟩ := p8
    subst eh7
    refine V_if_eq 31 z6E d_Mod_fund_16 (by decide) (fun c9 => ?_) (fun c9 => ?_)
    ·
      replace p8 := p8.resolve_left (fun q => by (first | decide +kernel | omega))
      refine V_iconst (-1) d_Mod_fund_31 (by decide) ?_
      exact V_iret rfl d_Mod_fund_32 ⟨(-1), rfl, ⟨hI, f0, (Or.inr ⟨by (first | decide +kernel | omega), rfl, tc_m1⟩)⟩⟩
    ·
      replace p8 := p8.resolve_right (fun q => by (first | decide +kernel | omega))
      refine V_aload_n 0 d_Mod_fund_19 rfl rfl ?_
      refine V_bipush 80 d_Mod_fund_20 (by decide) ?_
      refine V_iload_n 1 d_Mod_fund_22 rfl rfl ?_
      refine V_iadd tc_80 oE (by (first | decide +kernel | omega)) d_Mod_fund_23 (fun z10 z10e z10E => ?_)
      refine V_iload_n 2 d_Mod_fund_24 rfl rfl ?_
      refine N_callVI [.int z10, .int v] [] cv_Mod_210 sk_116 rfl d_Mod_fund_25 rfl (Nat.le_of_ble_eq_true rfl) (by decide) (by decide) (c_Mod_becomesX h hI z10 ((80 + oZ)) z10E v vZ vE (by (first | decide +kernel | omega)) (stOk_lo vE (by (first | decide +kernel | omega)))) (fun z11 h12 z11Z z11E p13 => ?_)
      obtain ⟨hI14, fh12, p13⟩ := p13
      have f15 : fr S_Mod_fundX h h12 := fr_call f0 fh12 rfl
      refine V_goto 32 d_Mod_fund_28 (by decide) ?_
      exact V_iret rfl d_Mod_fund_32 ⟨z11, rfl, ⟨hI14, f15, (Or.inl ⟨by (first | decide +kernel | omega), v, rfl, p13.1, p13.2⟩)⟩⟩
