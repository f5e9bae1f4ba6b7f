section
abbrev q_Land_isWellX_0 (h : Hp) (c : Int32) (cZ : Int) : Option Value → Hp → Prop := pInt (fun r h' => h = h' ∧ (r.toInt = 1 ∧ bW (h.1 2 cZ.toNat) (h.1 6 cZ.toNat) ∨ r.toInt = 0 ∧ ¬ bW (h.1 2 cZ.toNat) (h.1 6 cZ.toNat)))
set_option maxRecDepth 100000 in
theorem c_Land_isWellX_0 (h : Hp) (hI : Inv h) (c : Int32) (cZ : Int) (cE : c.toInt = cZ) (hy0 : 0 ≤ cZ ∧ cZ ≤ 15) : Ct y_Land_isWell b_Land_isWell 2 (some .boolean) 0 0 [.ref 1, .int c] h (q_Land_isWellX_0 h c cZ) := by
  refine ct_ow R_Land [some (.ref 1), some (.int c)] rfl (by decide) rfl (Nat.le_of_ble_eq_true rfl) ?_
  have f0 : fr [] h h := fr_rf
  obtain ⟨uv, uvZ, uvE, uvK⟩ : ∃ (y : Int32) (Y : Int), y.toInt = Y ∧ h.1 2 (cZ).toNat = y := ⟨_, _, rfl, rfl⟩
  obtain ⟨bv, bvZ, bvE, bvK⟩ : ∃ (y : Int32) (Y : Int), y.toInt = Y ∧ h.1 6 (cZ).toNat = y := ⟨_, _, rfl, rfl⟩
  refine V_aload_n 0 d_Land_isWell_0 rfl rfl ?_
  refine V_getR fa_Land_9 sk_1 rfl d_Land_isWell_1 ?_
  refine V_iload_n 1 d_Land_isWell_4 rfl rfl ?_
  refine N_ialdK sk_2 cE (by (first | decide +kernel | omega)) d_Land_isWell_5 uvK ?_
  refine V_if_le 28 uvE d_Land_isWell_6 (by decide) (fun c2 => ?_) (fun c2 => ?_)
  ·
    refine V_iconst 0 d_Land_isWell_28 (by decide) ?_
    exact V_zret rfl (by decide) d_Land_isWell_29 ⟨0, rfl, ⟨rfl, (by rw [uvK, bvK]; unfold bW; (try rw [show Int32.toInt 0 = 0 from rfl]); omega)⟩⟩
  ·
    refine V_aload_n 0 d_Land_isWell_9 rfl rfl ?_
    refine V_getR fa_Land_9 sk_1 rfl d_Land_isWell_10 ?_
    refine V_iload_n 1 d_Land_isWell_13 rfl rfl ?_
    refine N_ialdK sk_2 cE (by (first | decide +kernel | omega)) d_Land_isWell_14 uvK ?_
    refine V_aload_n 0 d_Land_isWell_15 rfl rfl ?_
    refine V_getR fa_Land_24 sk_1 rfl d_Land_isWell_16 ?_
    refine V_iload_n 1 d_Land_isWell_19 rfl rfl ?_
    refine N_ialdK sk_6 cE (by (first | decide +kernel | omega)) d_Land_isWell_20 bvK ?_
    refine V_icmp_gt 28 uvE bvE d_Land_isWell_21 (by decide) (fun c5 => ?_) (fun c5 => ?_)
    ·
      refine V_iconst 0 d_Land_isWell_28 (by decide) ?_
      exact V_zret rfl (by decide) d_Land_isWell_29 ⟨0, rfl, ⟨rfl, (by rw [uvK, bvK]; unfold bW; (try rw [show Int32.toInt 0 = 0 from rfl]); omega)⟩⟩
    ·
      refine V_iconst 1 d_Land_isWell_24 (by decide) ?_
      refine V_goto 29 d_Land_isWell_25 (by decide) ?_
      exact V_zret rfl (by decide) d_Land_isWell_29 ⟨1, rfl, ⟨rfl, (by rw [uvK, bvK]; unfold bW; (try rw [show Int32.toInt 1 = 1 from rfl]); omega)⟩⟩
abbrev q_Mod_isWellByX (h : Hp) (a : Int32) (aZ : Int) (b : Int32) (bZ : Int) : Option Value → Hp → Prop := pInt (fun r h' => h = h' ∧ (r.toInt = 1 ∧ 0 < aZ ∧ aZ ≤ bZ ∨ r.toInt = 0 ∧ (aZ ≤ 0 ∨ bZ < aZ)))
set_option maxRecDepth 100000 in
theorem c_Mod_isWellByX (h : Hp) (a : Int32) (aZ : Int) (aE : a.toInt = aZ) (b : Int32) (bZ : Int) (bE : b.toInt = bZ) : Ct y_Mod_isWellBy b_Mod_isWellBy 2 (some .boolean) 0 0 [.int a, .int b] h (q_Mod_isWellByX h a aZ b bZ) := by
  refine ct_ow R_Mod [some (.int a), some (.int b)] rfl (by decide) rfl (Nat.le_of_ble_eq_true rfl) ?_
  have f0 : fr [] h h := fr_rf
  refine V_iload_n 0 d_Mod_isWellBy_0 rfl rfl ?_
  refine V_if_le 13 aE d_Mod_isWellBy_1 (by decide) (fun c1 => ?_) (fun c1 => ?_)
  ·
    refine V_iconst 0 d_Mod_isWellBy_13 (by decide) ?_
    exact V_zret rfl (by decide) d_Mod_isWellBy_14 ⟨0, rfl, ⟨rfl, (by (try rw [show Int32.toInt 0 = 0 from rfl]) <;> omega)⟩⟩
  ·
    refine V_iload_n 0 d_Mod_isWellBy_4 rfl rfl ?_
    refine V_iload_n 1 d_Mod_isWellBy_5 rfl rfl ?_
    refine V_icmp_gt 13 aE bE d_Mod_isWellBy_6 (by decide) (fun c2 => ?_) (fun c2 => ?_)
    ·
      refine V_iconst 0 d_Mod_isWellBy_13 (by decide) ?_
      exact V_zret rfl (by decide) d_Mod_isWellBy_14 ⟨0, rfl, ⟨rfl, (by (try rw [show Int32.toInt 0 = 0 from rfl]) <;> omega)⟩⟩
    ·
      refine V_iconst 1 d_Mod_isWellBy_9 (by decide) ?_
      refine V_goto 14 d_Mod_isWellBy_10 (by decide) ?_
      exact V_zret rfl (by decide) d_Mod_isWellBy_14 ⟨1, rfl, ⟨rfl, (by (try rw [show Int32.toInt 1 = 1 from rfl]) <;> omega)⟩⟩
abbrev q_Mod_isWellX (h : Hp) (c : Int32) (cZ : Int) : Option Value → Hp → Prop := pInt (fun r h' => h = h' ∧ (r.toInt = 1 ∧ bW (h.1 117 (0 + cZ).toNat) (h.1 117 (64 + cZ).toNat) ∨ r.toInt = 0 ∧ ¬ bW (h.1 117 (0 + cZ).toNat) (h.1 117 (64 + cZ).toNat)))
set_option maxRecDepth 100000 in
theorem c_Mod_isWellX (h : Hp) (hI : Inv h) (c : Int32) (cZ : Int) (cE : c.toInt = cZ) (hy0 : 0 ≤ cZ ∧ cZ ≤ 15) : Ct y_Mod_isWell b_Mod_isWell 2 (some .boolean) 1 21 [.ref 116, .int c] h (q_Mod_isWellX h c cZ) := by
  refine ct_ow R_Mod [some (.ref 116), some (.int c)] rfl (by decide) rfl (Nat.le_of_ble_eq_true rfl) ?_
  have f0 : fr [] h h := fr_rf
  obtain ⟨uv, uvZ, uvE, uvK⟩ : ∃ (y : Int32) (Y : Int), y.toInt = Y ∧ h.1 117 ((0 + cZ)).toNat = y := ⟨_, _, rfl, rfl⟩
  obtain ⟨bv, bvZ, bvE, bvK⟩ : ∃ (y : Int32) (Y : Int), y.toInt = Y ∧ h.1 117 ((64 + cZ)).toNat = y := ⟨_, _, rfl, rfl⟩
  refine V_aload_n 0 d_Mod_isWell_0 rfl rfl ?_
  refine V_getR fa_Mod_7 sk_116 rfl d_Mod_isWell_1 ?_
  refine V_iconst 0 d_Mod_isWell_4 (by decide) ?_
  refine V_iload_n 1 d_Mod_isWell_5 rfl rfl ?_
  refine V_iadd tc_0 cE (by (first | decide +kernel | omega)) d_Mod_isWell_6 (fun z1 z1e z1E => ?_)
  refine N_ialdK sk_117 z1E (by (first | decide +kernel | omega)) d_Mod_isWell_7 uvK ?_
  refine V_aload_n 0 d_Mod_isWell_8 rfl rfl ?_
  refine V_getR fa_Mod_7 sk_116 rfl d_Mod_isWell_9 ?_
  refine V_bipush 64 d_Mod_isWell_12 (by decide) ?_
  refine V_iload_n 1 d_Mod_isWell_14 rfl rfl ?_
  refine V_iadd tc_64 cE (by (first | decide +kernel | omega)) d_Mod_isWell_15 (fun z3 z3e z3E => ?_)
  refine N_ialdK sk_117 z3E (by (first | decide +kernel | omega)) d_Mod_isWell_16 bvK ?_
  refine N_callSI [.int uv, .int bv] [] cs_Mod_188 d_Mod_isWell_17 rfl (Nat.le_of_ble_eq_true rfl) (by decide) (by decide) (c_Mod_isWellByX h uv uvZ uvE bv bvZ bvE) (fun z5 h6 z5Z z5E p7 => ?_)
  obtain ⟨eh6, p7⟩ := p7
  subst eh6
  exact V_zret rfl (by rw [z5E]; omega) d_Mod_isWell_20 ⟨z5, rfl, ⟨rfl, (by rw [uvK, bvK]; unfold bW; omega)⟩⟩
def S_County_boreByX_0 : List (Nat × Option Nat) := [(8, none), (6, none)]
abbrev q_County_boreByX_0 (h : Hp) (o : Int32) (oZ : Int) (c : Int32) (cZ : Int) (d : Int32) (dZ : Int) (w : Int32) (wZ : Int) (g : Int32) (gZ : Int) (x : Int32) (xZ : Int) (y : Int32) (yZ : Int) : Option Value → Hp → Prop := pInt (fun r h' => Inv h' ∧ fr S_County_boreByX_0 h h' ∧ (BE h h' 8 oZ.toNat 6 cZ.toNat (0 ≤ oZ ∧ oZ ≤ 3 ∧ 0 ≤ cZ ∧ cZ < wZ * gZ ∧ 1 ≤ dZ ∧ dZ ≤ 9) (h.1 5 cZ.toNat) o (h.1 8 oZ.toNat) (h.1 6 cZ.toNat) (h.1 2 cZ.toNat) (h.1 1 2) (h.1 1 3) d r))
set_option maxRecDepth 100000 in
theorem c_County_boreByX_0 (h : Hp) (hI : Inv h) (o : Int32) (oZ : Int) (oE : o.toInt = oZ) (c : Int32) (cZ : Int) (cE : c.toInt = cZ) (d : Int32) (dZ : Int) (dE : d.toInt = dZ) (w : Int32) (wZ : Int) (wE : w.toInt = wZ) (wK : h.1 1 0 = w) (g : Int32) (gZ : Int) (gE : g.toInt = gZ) (gK : h.1 1 1 = g) (x : Int32) (xZ : Int) (xE : x.toInt = xZ) (xK : h.1 1 2 = x) (y : Int32) (yZ : Int) (yE : y.toInt = yZ) (yK : h.1 1 3 = y) : Ct y_County_boreBy b_County_boreBy 9 (some .int) 2 41 [.ref 0, .int o, .int c, .int d] h (q_County_boreByX_0 h o oZ c cZ d dZ w wZ g gZ x xZ y yZ) := by
  refine ct_ow R_County [some (.ref 0), some (.int o), some (.int c), some (.int d), none, none, none, none, none] rfl (by decide) rfl (Nat.le_of_ble_eq_true rfl) ?_
  have f0 : fr S_County_boreByX_0 h h := fr_rf
  have g1 : 2 ≤ wZ ∧ wZ ≤ 4 := inv_at hI wE wK.symm rfl
  have g2 : 2 ≤ gZ ∧ gZ ≤ 4 := inv_at hI gE gK.symm rfl
  obtain ⟨uv, uvZ, uvE, uvK⟩ : ∃ (y : Int32) (Y : Int), y.toInt = Y ∧ h.1 2 (cZ).toNat = y := ⟨_, _, rfl, rfl⟩
  obtain ⟨bv, bvZ, bvE, bvK⟩ : ∃ (y : Int32) (Y : Int), y.toInt = Y ∧ h.1 6 (cZ).toNat = y := ⟨_, _, rfl, rfl⟩
  obtain ⟨lv, lvZ, lvE, lvK⟩ : ∃ (y : Int32) (Y : Int), y.toInt = Y ∧ h.1 5 (cZ).toNat = y := ⟨_, _, rfl, rfl⟩
  obtain ⟨pv, pvZ, pvE, pvK⟩ : ∃ (y : Int32) (Y : Int), y.toInt = Y ∧ h.1 8 (oZ).toNat = y := ⟨_, _, rfl, rfl⟩
  refine V_iload_n 1 d_County_boreBy_0 rfl rfl ?_
  refine N_callSI [.int o] [] cs_County_79 d_County_boreBy_1 rfl (Nat.le_of_ble_eq_true rfl) (by decide) (by decide) (c_Rod_isOwner h o oZ oE) (fun z3 h4 z3Z z3E p5 => ?_)
  obtain ⟨eh4, p5⟩ := p5
  subst eh4
  refine V_if_eq 25 z3E d_County_boreBy_4 (by decide) (fun c6 => ?_) (fun c6 => ?_)
  ·
    replace p5 := p5.resolve_left (fun q => by (first | decide +kernel | omega))
    refine V_iconst (-1) d_County_boreBy_25 (by decide) ?_
    exact V_iret rfl d_County_boreBy_26 ⟨(-1), rfl, ⟨hI, f0, (Or.inl ⟨by (first | decide +kernel | omega), rfl, tc_m1⟩)⟩⟩
  ·
    replace p5 := p5.resolve_right (fun q => by (first | decide +kernel | omega))
    refine V_aload_n 0 d_County_boreBy_7 rfl rfl ?_
    refine V_getR fa_County_12 sk_0 rfl d_County_boreBy_8 ?_
    refine V_iload_n 2 d_County_boreBy_11 rfl rfl ?_
    refine N_callVI [.int c] [] cv_County_83 sk_1 rfl d_County_boreBy_12 rfl (Nat.le_of_ble_eq_true rfl) (by decide) (by decide) (c_Land_hasX_0 h hI c cZ cE w wZ wE wK g gZ gE gK) (fun z7 h8 z7Z z7E p9 => ?_)
    obtain ⟨eh8, p9⟩ := p9
    subst eh8
    refine V_if_eq 25 z7E d_County_boreBy_15 (by decide) (fun c10 => ?_) (fun c10 => ?_)
    ·
      replace p9 := p9.resolve_left (fun q => by (first | decide +kernel | omega))
      refine V_iconst (-1) d_County_boreBy_25 (by decide) ?_
      exact V_iret rfl d_County_boreBy_26 ⟨(-1), rfl, ⟨hI, f0, (Or.inl ⟨by (first | decide +kernel | omega), rfl, tc_m1⟩)⟩⟩
    ·
      replace p9 := p9.resolve_right (fun q => by (first | decide +kernel | omega))
      refine V_iload_n 3 d_County_boreBy_18 rfl rfl ?_
      refine N_callSI [.int d] [] cs_County_86 d_County_boreBy_19 rfl (Nat.le_of_ble_eq_true rfl) (by decide) (by decide) (c_Rod_isDepth h d dZ dE) (fun z11 h12 z11Z z11E p13 => ?_)
      obtain ⟨eh12, p13⟩ := p13
      subst eh12
      refine V_if_ne 27 z11E d_County_boreBy_22 (by decide) (fun c14 => ?_) (fun c14 => ?_)
      ·
        replace p13 := p13.resolve_right (fun q => by (first | decide +kernel | omega))
        refine V_aload_n 0 d_County_boreBy_27 rfl rfl ?_
        refine V_getR fa_County_12 sk_0 rfl d_County_boreBy_28 ?_
        refine V_getR fa_County_89 sk_1 rfl d_County_boreBy_31 ?_
        refine V_iload_n 2 d_County_boreBy_34 rfl rfl ?_
        refine N_ialdK sk_5 cE (by (first | decide +kernel | omega)) d_County_boreBy_35 lvK ?_
        refine V_iload_n 1 d_County_boreBy_36 rfl rfl ?_
        refine V_icmp_eq 43 lvE oE d_County_boreBy_37 (by decide) (fun c16 => ?_) (fun c16 => ?_)
        ·
          refine V_aload_n 0 d_County_boreBy_43 rfl rfl ?_
          refine V_getR fa_County_12 sk_0 rfl d_County_boreBy_44 ?_
          refine V_iload_n 2 d_County_boreBy_47 rfl rfl ?_
          refine N_callVI [.int c] [] cv_County_92 sk_1 rfl d_County_boreBy_48 rfl (Nat.le_of_ble_eq_true rfl) (by decide) (by decide) (c_Land_isWellX_0 h hI c cZ cE (by (first | decide +kernel | omega))) (fun z17 h18 z17Z z17E p19 => ?_)
          obtain ⟨eh18, p19⟩ := p19
          subst eh18
          rw [uvK, bvK] at p19
          unfold bW at p19
          refine V_istore 4 [some (.ref 0), some (.int o), some (.int c), some (.int d), some (.int z17), none, none, none, none] d_County_boreBy_51 (by decide) rfl rfl ?_
          refine V_aload_n 0 d_County_boreBy_53 rfl rfl ?_
          refine V_getR fa_County_12 sk_0 rfl d_County_boreBy_54 ?_
          refine V_getR fa_County_95 sk_1 rfl d_County_boreBy_57 ?_
          refine V_iload_n 2 d_County_boreBy_60 rfl rfl ?_
          refine N_ialdK sk_6 cE (by (first | decide +kernel | omega)) d_County_boreBy_61 bvK ?_
          refine V_iload_n 3 d_County_boreBy_62 rfl rfl ?_
          refine N_max bvE dE wm_County_98 d_County_boreBy_63 (Nat.le_of_ble_eq_true rfl) (by decide) wmax1 wM2 wmax3 (fun z21 z21Z z21E z21e z21g => ?_)
          have hdp : z21 = bD bv d := bD_max bvE dE z21E z21g
          refine V_istore 5 [some (.ref 0), some (.int o), some (.int c), some (.int d), some (.int z17), some (.int z21), none, none, none] d_County_boreBy_66 (by decide) rfl rfl ?_
          refine V_iload d_County_boreBy_68 rfl ?_
          refine V_if_ne 103 z17E d_County_boreBy_70 (by decide) (fun c22 => ?_) (fun c22 => ?_)
          ·
            replace p19 := p19.resolve_right (fun q => by (first | decide +kernel | omega))
            refine V_iconst 0 d_County_boreBy_103 (by decide) ?_
            refine V_istore 6 [some (.ref 0), some (.int o), some (.int c), some (.int d), some (.int z17), some (.int z21), some (.int 0), none, none] d_County_boreBy_104 (by decide) rfl rfl ?_
            refine V_aload_n 0 d_County_boreBy_106 rfl rfl ?_
            refine V_getR fa_County_21 sk_0 rfl d_County_boreBy_107 ?_
            refine V_getR fa_County_107 sk_7 rfl d_County_boreBy_110 ?_
            refine V_iload_n 1 d_County_boreBy_113 rfl rfl ?_
            refine N_ialdK sk_8 oE (by (first | decide +kernel | omega)) d_County_boreBy_114 pvK ?_
            refine V_aload_n 0 d_County_boreBy_115 rfl rfl ?_
            refine V_getR fa_County_12 sk_0 rfl d_County_boreBy_116 ?_
            refine N_getK fa_County_110 sk_1 rfl d_County_boreBy_119 xK ?_
            refine V_iload d_County_boreBy_122 rfl ?_
            refine V_aload_n 0 d_County_boreBy_124 rfl rfl ?_
            refine V_getR fa_County_12 sk_0 rfl d_County_boreBy_125 ?_
            refine V_getR fa_County_95 sk_1 rfl d_County_boreBy_128 ?_
            refine V_iload_n 2 d_County_boreBy_131 rfl rfl ?_
            refine N_ialdK sk_6 cE (by (first | decide +kernel | omega)) d_County_boreBy_132 bvK ?_
            refine N_isubw d_County_boreBy_133 (fun z25 z25Z z25E z25e => ?_)
            refine N_imulw d_County_boreBy_134 (fun z26 z26Z z26E z26e => ?_)
            refine N_isubw d_County_boreBy_135 (fun z27 z27Z z27E z27e => ?_)
            refine V_istore 7 [some (.ref 0), some (.int o), some (.int c), some (.int d), some (.int z17), some (.int z21), some (.int 0), some (.int z27), none] d_County_boreBy_136 (by decide) rfl rfl ?_
            refine V_iload d_County_boreBy_138 rfl ?_
            refine V_if_eq 156 tc_0 d_County_boreBy_140 (by decide) (fun c28 => ?_) (fun c28 => ?_)
            ·
              refine V_iload d_County_boreBy_156 rfl ?_
              refine V_istore 8 [some (.ref 0), some (.int o), some (.int c), some (.int d), some (.int z17), some (.int z21), some (.int 0), some (.int z27), some (.int z27)] d_County_boreBy_158 (by decide) rfl rfl ?_
              refine V_iload d_County_boreBy_160 rfl ?_
              refine V_if_lt 173 z27E d_County_boreBy_162 (by decide) (fun c29 => ?_) (fun c29 => ?_)
              ·
                refine V_bipush (-2) d_County_boreBy_173 (by decide) ?_
                exact V_iret rfl d_County_boreBy_175 ⟨(-2), rfl, ⟨hI, f0, (by rw [lvK, pvK, bvK, uvK, xK, yK]; exact BE_of (by (first | decide +kernel | omega)) lvE oE z27E z27E hdp (bM_dp hdp z25e) z26e z27e (Or.inr ⟨by unfold bW; omega, rfl⟩) (Or.inl ⟨by (first | decide +kernel | omega), rfl, tc_m2⟩))⟩⟩
              ·
                refine V_iload d_County_boreBy_165 rfl ?_
                refine V_sipush 999 d_County_boreBy_167 (by decide) ?_
                refine V_icmp_le 176 z27E tc_999 d_County_boreBy_170 (by decide) (fun c30 => ?_) (fun c30 => ?_)
                ·
                  refine V_aload_n 0 d_County_boreBy_176 rfl rfl ?_
                  refine V_getR fa_County_21 sk_0 rfl d_County_boreBy_177 ?_
                  refine V_getR fa_County_107 sk_7 rfl d_County_boreBy_180 ?_
                  refine V_iload_n 1 d_County_boreBy_183 rfl rfl ?_
                  refine V_iload d_County_boreBy_184 rfl ?_
                  refine N_iast sk_8 oE (by (first | decide +kernel | omega)) d_County_boreBy_186 (fun h31 eh31 => ?_)
                  have hI32 : Inv h31 := inv_full hI eh31 rfl
                  have f33 : fr S_County_boreByX_0 h h31 := fr_put f0 eh31 rfl
                  refine V_aload_n 0 d_County_boreBy_187 rfl rfl ?_
                  refine V_getR fa_County_12 sk_0 rfl d_County_boreBy_188 ?_
                  refine V_getR fa_County_95 sk_1 rfl d_County_boreBy_191 ?_
                  refine V_iload_n 2 d_County_boreBy_194 rfl rfl ?_
                  refine V_iload d_County_boreBy_195 rfl ?_
                  refine N_iast sk_6 cE (by (first | decide +kernel | omega)) d_County_boreBy_197 (fun h34 eh34 => ?_)
                  have hI35 : Inv h34 := inv_full hI32 eh34 rfl
                  have f36 : fr S_County_boreByX_0 h h34 := fr_put f33 eh34 rfl
                  refine V_iload d_County_boreBy_198 rfl ?_
                  refine V_if_ne 208 z17E d_County_boreBy_200 (by decide) (fun c37 => ?_) (fun c37 => ?_)
                  ·
                    refine V_iconst 1 d_County_boreBy_208 (by decide) ?_
                    refine V_goto 213 d_County_boreBy_209 (by decide) ?_
                    refine N_callSI [.int 1] [] cs_County_116 d_County_boreBy_213 rfl (Nat.le_of_ble_eq_true rfl) (by decide) (by decide) (c_Rod_oneIf h34 1 1 tc_1) (fun z38 h39 z38Z z38E p40 => ?_)
                    obtain ⟨eh39, p40⟩ := p40
                    subst eh39
                    exact V_iret rfl d_County_boreBy_216 ⟨z38, rfl, ⟨hI35, f36, (by rw [lvK, pvK, bvK, uvK, xK, yK]; exact BE_of (by (first | decide +kernel | omega)) lvE oE z27E z27E hdp (bM_dp hdp z25e) z26e z27e (Or.inr ⟨by unfold bW; omega, rfl⟩) (Or.inr ⟨by (first | decide +kernel | omega), (by rw [eh34, eh31] <;> rfl), by unfold bW; omega⟩))⟩⟩
                  ·
                    refine V_iload d_County_boreBy_203 rfl ?_
                    refine V_if_eq 212 tc_0 d_County_boreBy_205 (by decide) (fun c41 => ?_) (fun c41 => ?_)
                    ·
                      refine V_iconst 0 d_County_boreBy_212 (by decide) ?_
                      refine N_callSI [.int 0] [] cs_County_116 d_County_boreBy_213 rfl (Nat.le_of_ble_eq_true rfl) (by decide) (by decide) (c_Rod_oneIf h34 0 0 tc_0) (fun z42 h43 z42Z z42E p44 => ?_)
                      obtain ⟨eh43, p44⟩ := p44
                      subst eh43
                      exact V_iret rfl d_County_boreBy_216 ⟨z42, rfl, ⟨hI35, f36, (by rw [lvK, pvK, bvK, uvK, xK, yK]; exact BE_of (by (first | decide +kernel | omega)) lvE oE z27E z27E hdp (bM_dp hdp z25e) z26e z27e (Or.inr ⟨by unfold bW; omega, rfl⟩) (Or.inr ⟨by (first | decide +kernel | omega), (by rw [eh34, eh31] <;> rfl), by unfold bW; omega⟩))⟩⟩
                    ·
                      exact absurd c41 (by decide)
                ·
                  refine V_bipush (-2) d_County_boreBy_173 (by decide) ?_
                  exact V_iret rfl d_County_boreBy_175 ⟨(-2), rfl, ⟨hI, f0, (by rw [lvK, pvK, bvK, uvK, xK, yK]; exact BE_of (by (first | decide +kernel | omega)) lvE oE z27E z27E hdp (bM_dp hdp z25e) z26e z27e (Or.inr ⟨by unfold bW; omega, rfl⟩) (Or.inl ⟨by (first | decide +kernel | omega), rfl, tc_m2⟩))⟩⟩
            ·
              exact absurd c28 (by decide)
          ·
            replace p19 := p19.resolve_left (fun q => by (first | decide +kernel | omega))
            refine V_aload_n 0 d_County_boreBy_73 rfl rfl ?_
            refine V_getR fa_County_12 sk_0 rfl d_County_boreBy_74 ?_
            refine V_getR fa_County_104 sk_1 rfl d_County_boreBy_77 ?_
            refine V_iload_n 2 d_County_boreBy_80 rfl rfl ?_
            refine N_ialdK sk_2 cE (by (first | decide +kernel | omega)) d_County_boreBy_81 uvK ?_
            refine V_if_le 103 uvE d_County_boreBy_82 (by decide) (fun c46 => ?_) (fun c46 => ?_)
            ·
              refine V_iconst 0 d_County_boreBy_103 (by decide) ?_
              refine V_istore 6 [some (.ref 0), some (.int o), some (.int c), some (.int d), some (.int z17), some (.int z21), some (.int 0), none, none] d_County_boreBy_104 (by decide) rfl rfl ?_
              refine V_aload_n 0 d_County_boreBy_106 rfl rfl ?_
              refine V_getR fa_County_21 sk_0 rfl d_County_boreBy_107 ?_
              refine V_getR fa_County_107 sk_7 rfl d_County_boreBy_110 ?_
              refine V_iload_n 1 d_County_boreBy_113 rfl rfl ?_
              refine N_ialdK sk_8 oE (by (first | decide +kernel | omega)) d_County_boreBy_114 pvK ?_
              refine V_aload_n 0 d_County_boreBy_115 rfl rfl ?_
              refine V_getR fa_County_12 sk_0 rfl d_County_boreBy_116 ?_
              refine N_getK fa_County_110 sk_1 rfl d_County_boreBy_119 xK ?_
              refine V_iload d_County_boreBy_122 rfl ?_
              refine V_aload_n 0 d_County_boreBy_124 rfl rfl ?_
              refine V_getR fa_County_12 sk_0 rfl d_County_boreBy_125 ?_
              refine V_getR fa_County_95 sk_1 rfl d_County_boreBy_128 ?_
              refine V_iload_n 2 d_County_boreBy_131 rfl rfl ?_
              refine N_ialdK sk_6 cE (by (first | decide +kernel | omega)) d_County_boreBy_132 bvK ?_
              refine N_isubw d_County_boreBy_133 (fun z49 z49Z z49E z49e => ?_)
              refine N_imulw d_County_boreBy_134 (fun z50 z50Z z50E z50e => ?_)
              refine N_isubw d_County_boreBy_135 (fun z51 z51Z z51E z51e => ?_)
              refine V_istore 7 [some (.ref 0), some (.int o), some (.int c), some (.int d), some (.int z17), some (.int z21), some (.int 0), some (.int z51), none] d_County_boreBy_136 (by decide) rfl rfl ?_
              refine V_iload d_County_boreBy_138 rfl ?_
              refine V_if_eq 156 tc_0 d_County_boreBy_140 (by decide) (fun c52 => ?_) (fun c52 => ?_)
              ·
                refine V_iload d_County_boreBy_156 rfl ?_
                refine V_istore 8 [some (.ref 0), some (.int o), some (.int c), some (.int d), some (.int z17), some (.int z21), some (.int 0), some (.int z51), some (.int z51)] d_County_boreBy_158 (by decide) rfl rfl ?_
                refine V_iload d_County_boreBy_160 rfl ?_
                refine V_if_lt 173 z51E d_County_boreBy_162 (by decide) (fun c53 => ?_) (fun c53 => ?_)
                ·
                  refine V_bipush (-2) d_County_boreBy_173 (by decide) ?_
                  exact V_iret rfl d_County_boreBy_175 ⟨(-2), rfl, ⟨hI, f0, (by rw [lvK, pvK, bvK, uvK, xK, yK]; exact BE_of (by (first | decide +kernel | omega)) lvE oE z51E z51E hdp (bM_dp hdp z49e) z50e z51e (Or.inr ⟨by unfold bW; omega, rfl⟩) (Or.inl ⟨by (first | decide +kernel | omega), rfl, tc_m2⟩))⟩⟩
                ·
                  refine V_iload d_County_boreBy_165 rfl ?_
                  refine V_sipush 999 d_County_boreBy_167 (by decide) ?_
                  refine V_icmp_le 176 z51E tc_999 d_County_boreBy_170 (by decide) (fun c54 => ?_) (fun c54 => ?_)
                  ·
                    refine V_aload_n 0 d_County_boreBy_176 rfl rfl ?_
                    refine V_getR fa_County_21 sk_0 rfl d_County_boreBy_177 ?_
                    refine V_getR fa_County_107 sk_7 rfl d_County_boreBy_180 ?_
                    refine V_iload_n 1 d_County_boreBy_183 rfl rfl ?_
                    refine V_iload d_County_boreBy_184 rfl ?_
                    refine N_iast sk_8 oE (by (first | decide +kernel | omega)) d_County_boreBy_186 (fun h55 eh55 => ?_)
                    have hI56 : Inv h55 := inv_full hI eh55 rfl
                    have f57 : fr S_County_boreByX_0 h h55 := fr_put f0 eh55 rfl
                    refine V_aload_n 0 d_County_boreBy_187 rfl rfl ?_
                    refine V_getR fa_County_12 sk_0 rfl d_County_boreBy_188 ?_
                    refine V_getR fa_County_95 sk_1 rfl d_County_boreBy_191 ?_
                    refine V_iload_n 2 d_County_boreBy_194 rfl rfl ?_
                    refine V_iload d_County_boreBy_195 rfl ?_
                    refine N_iast sk_6 cE (by (first | decide +kernel | omega)) d_County_boreBy_197 (fun h58 eh58 => ?_)
                    have hI59 : Inv h58 := inv_full hI56 eh58 rfl
                    have f60 : fr S_County_boreByX_0 h h58 := fr_put f57 eh58 rfl
                    refine V_iload d_County_boreBy_198 rfl ?_
                    refine V_if_ne 208 z17E d_County_boreBy_200 (by decide) (fun c61 => ?_) (fun c61 => ?_)
                    ·
                      refine V_iconst 1 d_County_boreBy_208 (by decide) ?_
                      refine V_goto 213 d_County_boreBy_209 (by decide) ?_
                      refine N_callSI [.int 1] [] cs_County_116 d_County_boreBy_213 rfl (Nat.le_of_ble_eq_true rfl) (by decide) (by decide) (c_Rod_oneIf h58 1 1 tc_1) (fun z62 h63 z62Z z62E p64 => ?_)
                      obtain ⟨eh63, p64⟩ := p64
                      subst eh63
                      exact V_iret rfl d_County_boreBy_216 ⟨z62, rfl, ⟨hI59, f60, (by rw [lvK, pvK, bvK, uvK, xK, yK]; exact BE_of (by (first | decide +kernel | omega)) lvE oE z51E z51E hdp (bM_dp hdp z49e) z50e z51e (Or.inr ⟨by unfold bW; omega, rfl⟩) (Or.inr ⟨by (first | decide +kernel | omega), (by rw [eh58, eh55] <;> rfl), by unfold bW; omega⟩))⟩⟩
                    ·
                      refine V_iload d_County_boreBy_203 rfl ?_
                      refine V_if_eq 212 tc_0 d_County_boreBy_205 (by decide) (fun c65 => ?_) (fun c65 => ?_)
                      ·
                        refine V_iconst 0 d_County_boreBy_212 (by decide) ?_
                        refine N_callSI [.int 0] [] cs_County_116 d_County_boreBy_213 rfl (Nat.le_of_ble_eq_true rfl) (by decide) (by decide) (c_Rod_oneIf h58 0 0 tc_0) (fun z66 h67 z66Z z66E p68 => ?_)
                        obtain ⟨eh67, p68⟩ := p68
                        subst eh67
                        exact V_iret rfl d_County_boreBy_216 ⟨z66, rfl, ⟨hI59, f60, (by rw [lvK, pvK, bvK, uvK, xK, yK]; exact BE_of (by (first | decide +kernel | omega)) lvE oE z51E z51E hdp (bM_dp hdp z49e) z50e z51e (Or.inr ⟨by unfold bW; omega, rfl⟩) (Or.inr ⟨by (first | decide +kernel | omega), (by rw [eh58, eh55] <;> rfl), by unfold bW; omega⟩))⟩⟩
                      ·
                        exact absurd c65 (by decide)
                  ·
                    refine V_bipush (-2) d_County_boreBy_173 (by decide) ?_
                    exact V_iret rfl d_County_boreBy_175 ⟨(-2), rfl, ⟨hI, f0, (by rw [lvK, pvK, bvK, uvK, xK, yK]; exact BE_of (by (first | decide +kernel | omega)) lvE oE z51E z51E hdp (bM_dp hdp z49e) z50e z51e (Or.inr ⟨by unfold bW; omega, rfl⟩) (Or.inl ⟨by (first | decide +kernel | omega), rfl, tc_m2⟩))⟩⟩
              ·
                exact absurd c52 (by decide)
            ·
              refine V_aload_n 0 d_County_boreBy_85 rfl rfl ?_
              refine V_getR fa_County_12 sk_0 rfl d_County_boreBy_86 ?_
              refine V_getR fa_County_104 sk_1 rfl d_County_boreBy_89 ?_
              refine V_iload_n 2 d_County_boreBy_92 rfl rfl ?_
              refine N_ialdK sk_2 cE (by (first | decide +kernel | omega)) d_County_boreBy_93 uvK ?_
              refine V_iload d_County_boreBy_94 rfl ?_
              refine V_icmp_gt 103 uvE z21E d_County_boreBy_96 (by decide) (fun c70 => ?_) (fun c70 => ?_)
              ·
                refine V_iconst 0 d_County_boreBy_103 (by decide) ?_
                refine V_istore 6 [some (.ref 0), some (.int o), some (.int c), some (.int d), some (.int z17), some (.int z21), some (.int 0), none, none] d_County_boreBy_104 (by decide) rfl rfl ?_
                refine V_aload_n 0 d_County_boreBy_106 rfl rfl ?_
                refine V_getR fa_County_21 sk_0 rfl d_County_boreBy_107 ?_
                refine V_getR fa_County_107 sk_7 rfl d_County_boreBy_110 ?_
                refine V_iload_n 1 d_County_boreBy_113 rfl rfl ?_
                refine N_ialdK sk_8 oE (by (first | decide +kernel | omega)) d_County_boreBy_114 pvK ?_
                refine V_aload_n 0 d_County_boreBy_115 rfl rfl ?_
                refine V_getR fa_County_12 sk_0 rfl d_County_boreBy_116 ?_
                refine N_getK fa_County_110 sk_1 rfl d_County_boreBy_119 xK ?_
                refine V_iload d_County_boreBy_122 rfl ?_
                refine V_aload_n 0 d_County_boreBy_124 rfl rfl ?_
                refine V_getR fa_County_12 sk_0 rfl d_County_boreBy_125 ?_
                refine V_getR fa_County_95 sk_1 rfl d_County_boreBy_128 ?_
                refine V_iload_n 2 d_County_boreBy_131 rfl rfl ?_
                refine N_ialdK sk_6 cE (by (first | decide +kernel | omega)) d_County_boreBy_132 bvK ?_
                refine N_isubw d_County_boreBy_133 (fun z73 z73Z z73E z73e => ?_)
                refine N_imulw d_County_boreBy_134 (fun z74 z74Z z74E z74e => ?_)
                refine N_isubw d_County_boreBy_135 (fun z75 z75Z z75E z75e => ?_)
                refine V_istore 7 [some (.ref 0), some (.int o), some (.int c), some (.int d), some (.int z17), some (.int z21), some (.int 0), some (.int z75), none] d_County_boreBy_136 (by decide) rfl rfl ?_
                refine V_iload d_County_boreBy_138 rfl ?_
                refine V_if_eq 156 tc_0 d_County_boreBy_140 (by decide) (fun c76 => ?_) (fun c76 => ?_)
                ·
                  refine V_iload d_County_boreBy_156 rfl ?_
                  refine V_istore 8 [some (.ref 0), some (.int o), some (.int c), some (.int d), some (.int z17), some (.int z21), some (.int 0), some (.int z75), some (.int z75)] d_County_boreBy_158 (by decide) rfl rfl ?_
                  refine V_iload d_County_boreBy_160 rfl ?_
                  refine V_if_lt 173 z75E d_County_boreBy_162 (by decide) (fun c77 => ?_) (fun c77 => ?_)
                  ·
                    refine V_bipush (-2) d_County_boreBy_173 (by decide) ?_
                    exact V_iret rfl d_County_boreBy_175 ⟨(-2), rfl, ⟨hI, f0, (by rw [lvK, pvK, bvK, uvK, xK, yK]; exact BE_of (by (first | decide +kernel | omega)) lvE oE z75E z75E hdp (bM_dp hdp z73e) z74e z75e (Or.inr ⟨by unfold bW; omega, rfl⟩) (Or.inl ⟨by (first | decide +kernel | omega), rfl, tc_m2⟩))⟩⟩
                  ·
                    refine V_iload d_County_boreBy_165 rfl ?_
                    refine V_sipush 999 d_County_boreBy_167 (by decide) ?_
                    refine V_icmp_le 176 z75E tc_999 d_County_boreBy_170 (by decide) (fun c78 => ?_) (fun c78 => ?_)
                    ·
                      refine V_aload_n 0 d_County_boreBy_176 rfl rfl ?_
                      refine V_getR fa_County_21 sk_0 rfl d_County_boreBy_177 ?_
                      refine V_getR fa_County_107 sk_7 rfl d_County_boreBy_180 ?_
                      refine V_iload_n 1 d_County_boreBy_183 rfl rfl ?_
                      refine V_iload d_County_boreBy_184 rfl ?_
                      refine N_iast sk_8 oE (by (first | decide +kernel | omega)) d_County_boreBy_186 (fun h79 eh79 => ?_)
                      have hI80 : Inv h79 := inv_full hI eh79 rfl
                      have f81 : fr S_County_boreByX_0 h h79 := fr_put f0 eh79 rfl
                      refine V_aload_n 0 d_County_boreBy_187 rfl rfl ?_
                      refine V_getR fa_County_12 sk_0 rfl d_County_boreBy_188 ?_
                      refine V_getR fa_County_95 sk_1 rfl d_County_boreBy_191 ?_
                      refine V_iload_n 2 d_County_boreBy_194 rfl rfl ?_
                      refine V_iload d_County_boreBy_195 rfl ?_
                      refine N_iast sk_6 cE (by (first | decide +kernel | omega)) d_County_boreBy_197 (fun h82 eh82 => ?_)
                      have hI83 : Inv h82 := inv_full hI80 eh82 rfl
                      have f84 : fr S_County_boreByX_0 h h82 := fr_put f81 eh82 rfl
                      refine V_iload d_County_boreBy_198 rfl ?_
                      refine V_if_ne 208 z17E d_County_boreBy_200 (by decide) (fun c85 => ?_) (fun c85 => ?_)
                      ·
                        refine V_iconst 1 d_County_boreBy_208 (by decide) ?_
                        refine V_goto 213 d_County_boreBy_209 (by decide) ?_
                        refine N_callSI [.int 1] [] cs_County_116 d_County_boreBy_213 rfl (Nat.le_of_ble_eq_true rfl) (by decide) (by decide) (c_Rod_oneIf h82 1 1 tc_1) (fun z86 h87 z86Z z86E p88 => ?_)
                        obtain ⟨eh87, p88⟩ := p88
                        subst eh87
                        exact V_iret rfl d_County_boreBy_216 ⟨z86, rfl, ⟨hI83, f84, (by rw [lvK, pvK, bvK, uvK, xK, yK]; exact BE_of (by (first | decide +kernel | omega)) lvE oE z75E z75E hdp (bM_dp hdp z73e) z74e z75e (Or.inr ⟨by unfold bW; omega, rfl⟩) (Or.inr ⟨by (first | decide +kernel | omega), (by rw [eh82, eh79] <;> rfl), by unfold bW; omega⟩))⟩⟩
                      ·
                        refine V_iload d_County_boreBy_203 rfl ?_
                        refine V_if_eq 212 tc_0 d_County_boreBy_205 (by decide) (fun c89 => ?_) (fun c89 => ?_)
                        ·
                          refine V_iconst 0 d_County_boreBy_212 (by decide) ?_
                          refine N_callSI [.int 0] [] cs_County_116 d_County_boreBy_213 rfl (Nat.le_of_ble_eq_true rfl) (by decide) (by decide) (c_Rod_oneIf h82 0 0 tc_0) (fun z90 h91 z90Z z90E p92 => ?_)
                          obtain ⟨eh91, p92⟩ := p92
                          subst eh91
                          exact V_iret rfl d_County_boreBy_216 ⟨z90, rfl, ⟨hI83, f84, (by rw [lvK, pvK, bvK, uvK, xK, yK]; exact BE_of (by (first | decide +kernel | omega)) lvE oE z75E z75E hdp (bM_dp hdp z73e) z74e z75e (Or.inr ⟨by unfold bW; omega, rfl⟩) (Or.inr ⟨by (first | decide +kernel | omega), (by rw [eh82, eh79] <;> rfl), by unfold bW; omega⟩))⟩⟩
                        ·
                          exact absurd c89 (by decide)
                    ·
                      refine V_bipush (-2) d_County_boreBy_173 (by decide) ?_
                      exact V_iret rfl d_County_boreBy_175 ⟨(-2), rfl, ⟨hI, f0, (by rw [lvK, pvK, bvK, uvK, xK, yK]; exact BE_of (by (first | decide +kernel | omega)) lvE oE z75E z75E hdp (bM_dp hdp z73e) z74e z75e (Or.inr ⟨by unfold bW; omega, rfl⟩) (Or.inl ⟨by (first | decide +kernel | omega), rfl, tc_m2⟩))⟩⟩
                ·
                  exact absurd c76 (by decide)
              ·
                refine V_iconst 1 d_County_boreBy_99 (by decide) ?_
                refine V_goto 104 d_County_boreBy_100 (by decide) ?_
                refine V_istore 6 [some (.ref 0), some (.int o), some (.int c), some (.int d), some (.int z17), some (.int z21), some (.int 1), none, none] d_County_boreBy_104 (by decide) rfl rfl ?_
                refine V_aload_n 0 d_County_boreBy_106 rfl rfl ?_
                refine V_getR fa_County_21 sk_0 rfl d_County_boreBy_107 ?_
                refine V_getR fa_County_107 sk_7 rfl d_County_boreBy_110 ?_
                refine V_iload_n 1 d_County_boreBy_113 rfl rfl ?_
                refine N_ialdK sk_8 oE (by (first | decide +kernel | omega)) d_County_boreBy_114 pvK ?_
                refine V_aload_n 0 d_County_boreBy_115 rfl rfl ?_
                refine V_getR fa_County_12 sk_0 rfl d_County_boreBy_116 ?_
                refine N_getK fa_County_110 sk_1 rfl d_County_boreBy_119 xK ?_
                refine V_iload d_County_boreBy_122 rfl ?_
                refine V_aload_n 0 d_County_boreBy_124 rfl rfl ?_
                refine V_getR fa_County_12 sk_0 rfl d_County_boreBy_125 ?_
                refine V_getR fa_County_95 sk_1 rfl d_County_boreBy_128 ?_
                refine V_iload_n 2 d_County_boreBy_131 rfl rfl ?_
                refine N_ialdK sk_6 cE (by (first | decide +kernel | omega)) d_County_boreBy_132 bvK ?_
                refine N_isubw d_County_boreBy_133 (fun z95 z95Z z95E z95e => ?_)
                refine N_imulw d_County_boreBy_134 (fun z96 z96Z z96E z96e => ?_)
                refine N_isubw d_County_boreBy_135 (fun z97 z97Z z97E z97e => ?_)
                refine V_istore 7 [some (.ref 0), some (.int o), some (.int c), some (.int d), some (.int z17), some (.int z21), some (.int 1), some (.int z97), none] d_County_boreBy_136 (by decide) rfl rfl ?_
                refine V_iload d_County_boreBy_138 rfl ?_
                refine V_if_eq 156 tc_1 d_County_boreBy_140 (by decide) (fun c98 => ?_) (fun c98 => ?_)
                ·
                  exact absurd c98 (by decide)
                ·
                  refine V_iload d_County_boreBy_143 rfl ?_
                  refine V_aload_n 0 d_County_boreBy_145 rfl rfl ?_
                  refine V_getR fa_County_12 sk_0 rfl d_County_boreBy_146 ?_
                  refine N_getK fa_County_113 sk_1 rfl d_County_boreBy_149 yK ?_
                  refine N_iaddw d_County_boreBy_152 (fun z99 z99Z z99E z99e => ?_)
                  refine V_goto 158 d_County_boreBy_153 (by decide) ?_
                  refine V_istore 8 [some (.ref 0), some (.int o), some (.int c), some (.int d), some (.int z17), some (.int z21), some (.int 1), some (.int z97), some (.int z99)] d_County_boreBy_158 (by decide) rfl rfl ?_
                  refine V_iload d_County_boreBy_160 rfl ?_
                  refine V_if_lt 173 z97E d_County_boreBy_162 (by decide) (fun c100 => ?_) (fun c100 => ?_)
                  ·
                    refine V_bipush (-2) d_County_boreBy_173 (by decide) ?_
                    exact V_iret rfl d_County_boreBy_175 ⟨(-2), rfl, ⟨hI, f0, (by rw [lvK, pvK, bvK, uvK, xK, yK]; exact BE_of (by (first | decide +kernel | omega)) lvE oE z97E z99E hdp (bM_dp hdp z95e) z96e z97e (Or.inl ⟨by unfold bW; omega, z99e⟩) (Or.inl ⟨by (first | decide +kernel | omega), rfl, tc_m2⟩))⟩⟩
                  ·
                    refine V_iload d_County_boreBy_165 rfl ?_
                    refine V_sipush 999 d_County_boreBy_167 (by decide) ?_
                    refine V_icmp_le 176 z99E tc_999 d_County_boreBy_170 (by decide) (fun c101 => ?_) (fun c101 => ?_)
                    ·
                      refine V_aload_n 0 d_County_boreBy_176 rfl rfl ?_
                      refine V_getR fa_County_21 sk_0 rfl d_County_boreBy_177 ?_
                      refine V_getR fa_County_107 sk_7 rfl d_County_boreBy_180 ?_
                      refine V_iload_n 1 d_County_boreBy_183 rfl rfl ?_
                      refine V_iload d_County_boreBy_184 rfl ?_
                      refine N_iast sk_8 oE (by (first | decide +kernel | omega)) d_County_boreBy_186 (fun h102 eh102 => ?_)
                      have hI103 : Inv h102 := inv_full hI eh102 rfl
                      have f104 : fr S_County_boreByX_0 h h102 := fr_put f0 eh102 rfl
                      refine V_aload_n 0 d_County_boreBy_187 rfl rfl ?_
                      refine V_getR fa_County_12 sk_0 rfl d_County_boreBy_188 ?_
                      refine V_getR fa_County_95 sk_1 rfl d_County_boreBy_191 ?_
                      refine V_iload_n 2 d_County_boreBy_194 rfl rfl ?_
                      refine V_iload d_County_boreBy_195 rfl ?_
                      refine N_iast sk_6 cE (by (first | decide +kernel | omega)) d_County_boreBy_197 (fun h105 eh105 => ?_)
                      have hI106 : Inv h105 := inv_full hI103 eh105 rfl
                      have f107 : fr S_County_boreByX_0 h h105 := fr_put f104 eh105 rfl
                      refine V_iload d_County_boreBy_198 rfl ?_
                      refine V_if_ne 208 z17E d_County_boreBy_200 (by decide) (fun c108 => ?_) (fun c108 => ?_)
                      ·
                        refine V_iconst 1 d_County_boreBy_208 (by decide) ?_
                        refine V_goto 213 d_County_boreBy_209 (by decide) ?_
                        refine N_callSI [.int 1] [] cs_County_116 d_County_boreBy_213 rfl (Nat.le_of_ble_eq_true rfl) (by decide) (by decide) (c_Rod_oneIf h105 1 1 tc_1) (fun z109 h110 z109Z z109E p111 => ?_)
                        obtain ⟨eh110, p111⟩ := p111
                        subst eh110
                        exact V_iret rfl d_County_boreBy_216 ⟨z109, rfl, ⟨hI106, f107, (by rw [lvK, pvK, bvK, uvK, xK, yK]; exact BE_of (by (first | decide +kernel | omega)) lvE oE z97E z99E hdp (bM_dp hdp z95e) z96e z97e (Or.inl ⟨by unfold bW; omega, z99e⟩) (Or.inr ⟨by (first | decide +kernel | omega), (by rw [eh105, eh102] <;> rfl), by unfold bW; omega⟩))⟩⟩
                      ·
                        refine V_iload d_County_boreBy_203 rfl ?_
                        refine V_if_eq 212 tc_1 d_County_boreBy_205 (by decide) (fun c112 => ?_) (fun c112 => ?_)
                        ·
                          exact absurd c112 (by decide)
                        ·
                          refine V_iconst 1 d_County_boreBy_208 (by decide) ?_
                          refine V_goto 213 d_County_boreBy_209 (by decide) ?_
                          refine N_callSI [.int 1] [] cs_County_116 d_County_boreBy_213 rfl (Nat.le_of_ble_eq_true rfl) (by decide) (by decide) (c_Rod_oneIf h105 1 1 tc_1) (fun z113 h114 z113Z z113E p115 => ?_)
                          obtain ⟨eh114, p115⟩ := p115
                          subst eh114
                          exact V_iret rfl d_County_boreBy_216 ⟨z113, rfl, ⟨hI106, f107, (by rw [lvK, pvK, bvK, uvK, xK, yK]; exact BE_of (by (first | decide +kernel | omega)) lvE oE z97E z99E hdp (bM_dp hdp z95e) z96e z97e (Or.inl ⟨by unfold bW; omega, z99e⟩) (Or.inr ⟨by (first | decide +kernel | omega), (by rw [eh105, eh102] <;> rfl), by unfold bW; omega⟩))⟩⟩
                    ·
                      refine V_bipush (-2) d_County_boreBy_173 (by decide) ?_
                      exact V_iret rfl d_County_boreBy_175 ⟨(-2), rfl, ⟨hI, f0, (by rw [lvK, pvK, bvK, uvK, xK, yK]; exact BE_of (by (first | decide +kernel | omega)) lvE oE z97E z99E hdp (bM_dp hdp z95e) z96e z97e (Or.inl ⟨by unfold bW; omega, z99e⟩) (Or.inl ⟨by (first | decide +kernel | omega), rfl, tc_m2⟩))⟩⟩
        ·
          refine V_bipush (-2) d_County_boreBy_40 (by decide) ?_
          exact V_iret rfl d_County_boreBy_42 ⟨(-2), rfl, ⟨hI, f0, (by rw [lvK, pvK, bvK, uvK, xK, yK]; exact Or.inr ⟨by (first | decide +kernel | omega), BE_cl (fun q => absurd (congrArg Int32.toInt q) (by (first | decide +kernel | omega))) rfl tc_m2⟩)⟩⟩
      ·
        replace p13 := p13.resolve_left (fun q => by (first | decide +kernel | omega))
        refine V_iconst (-1) d_County_boreBy_25 (by decide) ?_
        exact V_iret rfl d_County_boreBy_26 ⟨(-1), rfl, ⟨hI, f0, (Or.inl ⟨by (first | decide +kernel | omega), rfl, tc_m1⟩)⟩⟩
def S_Rod_boreX : List (Nat × Option Nat) := [(8, none), (6, none)]
abbrev q_Rod_boreX (h : Hp) (o : Int32) (oZ : Int) (c : Int32) (cZ : Int) (d : Int32) (dZ : Int) (w : Int32) (wZ : Int) (g : Int32) (gZ : Int) (x : Int32) (xZ : Int) (y : Int32) (yZ : Int) : Option Value → Hp → Prop := pInt (fun r h' => Inv h' ∧ fr S_Rod_boreX h h' ∧ (BE h h' 8 oZ.toNat 6 cZ.toNat (0 ≤ oZ ∧ oZ ≤ 3 ∧ 0 ≤ cZ ∧ cZ < wZ * gZ ∧ 1 ≤ dZ ∧ dZ ≤ 9) (h.1 5 cZ.toNat) o (h.1 8 oZ.toNat) (h.1 6 cZ.toNat) (h.1 2 cZ.toNat) (h.1 1 2) (h.1 1 3) d r))
set_option maxRecDepth 100000 in
theorem c_Rod_boreX (h : Hp) (hI : Inv h) (o : Int32) (oZ : Int) (oE : o.toInt = oZ) (c : Int32) (cZ : Int) (cE : c.toInt = cZ) (d : Int32) (dZ : Int) (dE : d.toInt = dZ) (w : Int32) (wZ : Int) (wE : w.toInt = wZ) (wK : h.1 1 0 = w) (g : Int32) (gZ : Int) (gE : g.toInt = gZ) (gK : h.1 1 1 = g) (x : Int32) (xZ : Int) (xE : x.toInt = xZ) (xK : h.1 1 2 = x) (y : Int32) (yZ : Int) (yE : y.toInt = yZ) (yK : h.1 1 3 = y) : Ct y_Rod_bore b_Rod_bore 4 (some .int) 3 69 [.ref 85, .int o, .int c, .int d] h (q_Rod_boreX h o oZ c cZ d dZ w wZ g gZ x xZ y yZ) := by
  refine ct_ow R_Rod [some (.ref 85), some (.int o), some (.int c), some (.int d)] rfl (by decide) rfl (Nat.le_of_ble_eq_true rfl) ?_
  have f0 : fr S_Rod_boreX h h := fr_rf
  have g1 : 2 ≤ wZ ∧ wZ ≤ 4 := inv_at hI wE wK.symm rfl
  have g2 : 2 ≤ gZ ∧ gZ ≤ 4 := inv_at hI gE gK.symm rfl
  refine V_aload_n 0 d_Rod_bore_0 rfl rfl ?_
  refine V_getR fa_Rod_12 sk_85 rfl d_Rod_bore_1 ?_
  refine V_iload_n 1 d_Rod_bore_4 rfl rfl ?_
  refine V_iload_n 2 d_Rod_bore_5 rfl rfl ?_
  refine V_iload_n 3 d_Rod_bore_6 rfl rfl ?_
  refine N_callVI [.int o, .int c, .int d] [] cv_Rod_227 sk_0 rfl d_Rod_bore_7 rfl (Nat.le_of_ble_eq_true rfl) (by decide) (by decide) (c_County_boreByX_0 h hI o oZ oE c cZ cE d dZ dE w wZ wE wK g gZ gE gK x xZ xE xK y yZ yE yK) (fun z3 h4 z3Z z3E p5 => ?_)
  obtain ⟨hI6, fh4, p5⟩ := p5
  have f7 : fr S_Rod_boreX h h4 := fr_call f0 fh4 rfl
  exact V_iret rfl d_Rod_bore_10 ⟨z3, rfl, ⟨hI6, f7, (by have q9 := p5; rw [xK, yK] at q9 ⊢; exact q9)⟩⟩
def S_Mod_boreX : List (Nat × Option Nat) := [(117, none)]
abbrev q_Mod_boreX (h : Hp) (o : Int32) (oZ : Int) (c : Int32) (cZ : Int) (d : Int32) (dZ : Int) (w : Int32) (wZ : Int) (g : Int32) (gZ : Int) (x : Int32) (xZ : Int) (y : Int32) (yZ : Int) : Option Value → Hp → Prop := pInt (fun r h' => Inv h' ∧ fr S_Mod_boreX h h' ∧ (BE h h' 117 (80 + oZ).toNat 117 (64 + cZ).toNat (0 ≤ oZ ∧ oZ ≤ 3 ∧ 0 ≤ cZ ∧ cZ < wZ * gZ ∧ 1 ≤ dZ ∧ dZ ≤ 9) (h.1 117 (48 + cZ).toNat) o (h.1 117 (80 + oZ).toNat) (h.1 117 (64 + cZ).toNat) (h.1 117 (0 + cZ).toNat) (h.1 116 4) (h.1 116 5) d r))
set_option maxRecDepth 100000 in
theorem c_Mod_boreX (h : Hp) (hI : Inv h) (o : Int32) (oZ : Int) (oE : o.toInt = oZ) (c : Int32) (cZ : Int) (cE : c.toInt = cZ) (d : Int32) (dZ : Int) (dE : d.toInt = dZ) (w : Int32) (wZ : Int) (wE : w.toInt = wZ) (wK : h.1 116 2 = w) (g : Int32) (gZ : Int) (gE : g.toInt = gZ) (gK : h.1 116 3 = g) (x : Int32) (xZ : Int) (xE : x.toInt = xZ) (xK : h.1 116 4 = x) (y : Int32) (yZ : Int) (yE : y.toInt = yZ) (yK : h.1 116 5 = y) : Ct y_Mod_bore b_Mod_bore 9 (some .int) 2 46 [.ref 116, .int o, .int c, .int d] h (q_Mod_boreX h o oZ c cZ d dZ w wZ g gZ x xZ y yZ) := by
  refine ct_ow R_Mod [some (.ref 116), some (.int o), some (.int c), some (.int d), none, none, none, none, none] rfl (by decide) rfl (Nat.le_of_ble_eq_true rfl) ?_
  have f0 : fr S_Mod_boreX h h := fr_rf
  have g1 : 2 ≤ wZ ∧ wZ ≤ 4 := inv_at hI wE wK.symm rfl
  have g2 : 2 ≤ gZ ∧ gZ ≤ 4 := inv_at hI gE gK.symm rfl
  obtain ⟨uv, uvZ, uvE, uvK⟩ : ∃ (y : Int32) (Y : Int), y.toInt = Y ∧ h.1 117 ((0 + cZ)).toNat = y := ⟨_, _, rfl, rfl⟩
  obtain ⟨bv, bvZ, bvE, bvK⟩ : ∃ (y : Int32) (Y : Int), y.toInt = Y ∧ h.1 117 ((64 + cZ)).toNat = y := ⟨_, _, rfl, rfl⟩
  obtain ⟨lv, lvZ, lvE, lvK⟩ : ∃ (y : Int32) (Y : Int), y.toInt = Y ∧ h.1 117 ((48 + cZ)).toNat = y := ⟨_, _, rfl, rfl⟩
  obtain ⟨pv, pvZ, pvE, pvK⟩ : ∃ (y : Int32) (Y : Int), y.toInt = Y ∧ h.1 117 ((80 + oZ)).toNat = y := ⟨_, _, rfl, rfl⟩
  refine V_iload_n 1 d_Mod_bore_0 rfl rfl ?_
  refine N_callSI [.int o] [] cs_Mod_205 d_Mod_bore_1 rfl (Nat.le_of_ble_eq_true rfl) (by decide) (by decide) (c_Mod_isOwner h o oZ oE) (fun z3 h4 z3Z z3E p5 => ?_)
  obtain ⟨eh4, p5⟩ := p5
  subst eh4
  refine V_if_eq 27 z3E d_Mod_bore_4 (by decide) (fun c6 => ?_) (fun c6 => ?_)
  ·
    replace p5 := p5.resolve_left (fun q => by (first | decide +kernel | omega))
    refine V_iconst (-1) d_Mod_bore_27 (by decide) ?_
    exact V_iret rfl d_Mod_bore_28 ⟨(-1), rfl, ⟨hI, f0, (Or.inl ⟨by (first | decide +kernel | omega), rfl, tc_m1⟩)⟩⟩
  ·
    replace p5 := p5.resolve_right (fun q => by (first | decide +kernel | omega))
    refine V_aload_n 0 d_Mod_bore_7 rfl rfl ?_
    refine V_iload_n 2 d_Mod_bore_8 rfl rfl ?_
    refine N_callVI [.int c] [] cv_Mod_200 sk_116 rfl d_Mod_bore_9 rfl (Nat.le_of_ble_eq_true rfl) (by decide) (by decide) (c_Mod_isCellX h hI c cZ cE w wZ wE wK g gZ gE gK) (fun z7 h8 z7Z z7E p9 => ?_)
    obtain ⟨eh8, p9⟩ := p9
    subst eh8
    refine V_if_eq 27 z7E d_Mod_bore_12 (by decide) (fun c10 => ?_) (fun c10 => ?_)
    ·
      replace p9 := p9.resolve_left (fun q => by (first | decide +kernel | omega))
      refine V_iconst (-1) d_Mod_bore_27 (by decide) ?_
      exact V_iret rfl d_Mod_bore_28 ⟨(-1), rfl, ⟨hI, f0, (Or.inl ⟨by (first | decide +kernel | omega), rfl, tc_m1⟩)⟩⟩
    ·
      replace p9 := p9.resolve_right (fun q => by (first | decide +kernel | omega))
      refine V_iload_n 3 d_Mod_bore_15 rfl rfl ?_
      refine V_i2l d_Mod_bore_16 (fun z11 z11e z11E => ?_)
      have z11F : z11.toInt = dZ := z11E.trans dE
      refine V_lconst 1 d_Mod_bore_17 (by decide) ?_
      refine V_ldc2 d_Mod_bore_18 wl_Mod_208 ?_
      refine N_callSI [.long z11, .long 1, .long 9] [] cs_Mod_95 d_Mod_bore_21 rfl (Nat.le_of_ble_eq_true rfl) (by decide) (by decide) (c_Mod_in h z11 dZ z11F 1 1 tl_1 9 9 tl_9) (fun z12 h13 z12Z z12E p14 => ?_)
      obtain ⟨eh13, p14⟩ := p14
      subst eh13
      refine V_if_ne 29 z12E d_Mod_bore_24 (by decide) (fun c15 => ?_) (fun c15 => ?_)
      ·
        replace p14 := p14.resolve_right (fun q => by (first | decide +kernel | omega))
        refine V_iload_n 3 d_Mod_bore_29 rfl rfl ?_
        refine V_aload_n 0 d_Mod_bore_30 rfl rfl ?_
        refine V_getR fa_Mod_7 sk_116 rfl d_Mod_bore_31 ?_
        refine V_bipush 64 d_Mod_bore_34 (by decide) ?_
        refine V_iload_n 2 d_Mod_bore_36 rfl rfl ?_
        refine V_iadd tc_64 cE (by (first | decide +kernel | omega)) d_Mod_bore_37 (fun z16 z16e z16E => ?_)
        refine N_ialdK sk_117 z16E (by (first | decide +kernel | omega)) d_Mod_bore_38 bvK ?_
        refine V_icmp_le 56 dE bvE d_Mod_bore_39 (by decide) (fun c18 => ?_) (fun c18 => ?_)
        ·
          refine V_iconst 0 d_Mod_bore_56 (by decide) ?_
          refine V_istore 4 [some (.ref 116), some (.int o), some (.int c), some (.int d), some (.int 0), none, none, none, none] d_Mod_bore_57 (by decide) rfl rfl ?_
          have hm : (0 : Int32) = bM bv d := bM_0 bvE dE (by (first | decide +kernel | omega))
          refine V_aload_n 0 d_Mod_bore_59 rfl rfl ?_
          refine V_getR fa_Mod_7 sk_116 rfl d_Mod_bore_60 ?_
          refine V_bipush 64 d_Mod_bore_63 (by decide) ?_
          refine V_iload_n 2 d_Mod_bore_65 rfl rfl ?_
          refine V_iadd tc_64 cE (by (first | decide +kernel | omega)) d_Mod_bore_66 (fun z19 z19e z19E => ?_)
          refine N_ialdK sk_117 z19E (by (first | decide +kernel | omega)) d_Mod_bore_67 bvK ?_
          refine V_iload d_Mod_bore_68 rfl ?_
          refine N_iaddw d_Mod_bore_70 (fun z21 z21Z z21E z21e => ?_)
          have hdp : z21 = bD bv d := bD_add hm z21e
          have hdz : z21Z = dZ ∧ bvZ < dZ ∨ z21Z = bvZ ∧ dZ ≤ bvZ := bD_z hdp z21E bvE dE
          refine V_istore 5 [some (.ref 116), some (.int o), some (.int c), some (.int d), some (.int 0), some (.int z21), none, none, none] d_Mod_bore_71 (by decide) rfl rfl ?_
          refine V_aload_n 0 d_Mod_bore_73 rfl rfl ?_
          refine V_getR fa_Mod_7 sk_116 rfl d_Mod_bore_74 ?_
          refine V_bipush 80 d_Mod_bore_77 (by decide) ?_
          refine V_iload_n 1 d_Mod_bore_79 rfl rfl ?_
          refine V_iadd tc_80 oE (by (first | decide +kernel | omega)) d_Mod_bore_80 (fun z22 z22e z22E => ?_)
          refine N_ialdK sk_117 z22E (by (first | decide +kernel | omega)) d_Mod_bore_81 pvK ?_
          refine V_aload_n 0 d_Mod_bore_82 rfl rfl ?_
          refine N_getK fa_Mod_87 sk_116 rfl d_Mod_bore_83 xK ?_
          refine V_iload d_Mod_bore_86 rfl ?_
          refine V_imul xE tc_0 (by (first | decide +kernel | omega)) d_Mod_bore_88 (fun z24 z24e z24E => ?_)
          refine N_isubw d_Mod_bore_89 (fun z25 z25Z z25E z25e => ?_)
          refine V_istore 6 [some (.ref 116), some (.int o), some (.int c), some (.int d), some (.int 0), some (.int z21), some (.int z25), none, none] d_Mod_bore_90 (by decide) rfl rfl ?_
          refine V_aload_n 0 d_Mod_bore_92 rfl rfl ?_
          refine V_iload_n 2 d_Mod_bore_93 rfl rfl ?_
          refine N_callVI [.int c] [] cv_Mod_192 sk_116 rfl d_Mod_bore_94 rfl (Nat.le_of_ble_eq_true rfl) (by decide) (by decide) (c_Mod_isWellX h hI c cZ cE (by (first | decide +kernel | omega))) (fun z26 h27 z26Z z26E p28 => ?_)
          obtain ⟨eh27, p28⟩ := p28
          subst eh27
          rw [uvK, bvK] at p28
          unfold bW at p28
          refine V_if_ne 120 z26E d_Mod_bore_97 (by decide) (fun c29 => ?_) (fun c29 => ?_)
          ·
            replace p28 := p28.resolve_right (fun q => by (first | decide +kernel | omega))
            refine V_iconst 0 d_Mod_bore_120 (by decide) ?_
            refine V_istore 7 [some (.ref 116), some (.int o), some (.int c), some (.int d), some (.int 0), some (.int z21), some (.int z25), some (.int 0), none] d_Mod_bore_121 (by decide) rfl rfl ?_
            refine V_iload d_Mod_bore_123 rfl ?_
            refine V_if_eq 138 tc_0 d_Mod_bore_125 (by decide) (fun c30 => ?_) (fun c30 => ?_)
            ·
              refine V_iload d_Mod_bore_138 rfl ?_
              refine V_istore 8 [some (.ref 116), some (.int o), some (.int c), some (.int d), some (.int 0), some (.int z21), some (.int z25), some (.int 0), some (.int z25)] d_Mod_bore_140 (by decide) rfl rfl ?_
              refine V_aload_n 0 d_Mod_bore_142 rfl rfl ?_
              refine V_getR fa_Mod_7 sk_116 rfl d_Mod_bore_143 ?_
              refine V_bipush 48 d_Mod_bore_146 (by decide) ?_
              refine V_iload_n 2 d_Mod_bore_148 rfl rfl ?_
              refine V_iadd tc_48 cE (by (first | decide +kernel | omega)) d_Mod_bore_149 (fun z31 z31e z31E => ?_)
              refine N_ialdK sk_117 z31E (by (first | decide +kernel | omega)) d_Mod_bore_150 lvK ?_
              refine V_iload_n 1 d_Mod_bore_151 rfl rfl ?_
              refine V_icmp_ne 168 lvE oE d_Mod_bore_152 (by decide) (fun c33 => ?_) (fun c33 => ?_)
              ·
                refine V_bipush (-2) d_Mod_bore_168 (by decide) ?_
                exact V_iret rfl d_Mod_bore_170 ⟨(-2), rfl, ⟨hI, f0, (by rw [lvK, pvK, bvK, uvK, xK, yK]; exact BE_of (by (first | decide +kernel | omega)) lvE oE z25E z25E hdp hm z24e z25e (Or.inr ⟨by unfold bW; omega, rfl⟩) (Or.inl ⟨by (first | decide +kernel | omega), rfl, tc_m2⟩))⟩⟩
              ·
                refine V_iload d_Mod_bore_155 rfl ?_
                refine V_if_lt 168 z25E d_Mod_bore_157 (by decide) (fun c34 => ?_) (fun c34 => ?_)
                ·
                  refine V_bipush (-2) d_Mod_bore_168 (by decide) ?_
                  exact V_iret rfl d_Mod_bore_170 ⟨(-2), rfl, ⟨hI, f0, (by rw [lvK, pvK, bvK, uvK, xK, yK]; exact BE_of (by (first | decide +kernel | omega)) lvE oE z25E z25E hdp hm z24e z25e (Or.inr ⟨by unfold bW; omega, rfl⟩) (Or.inl ⟨by (first | decide +kernel | omega), rfl, tc_m2⟩))⟩⟩
                ·
                  refine V_iload d_Mod_bore_160 rfl ?_
                  refine V_sipush 999 d_Mod_bore_162 (by decide) ?_
                  refine V_icmp_le 171 z25E tc_999 d_Mod_bore_165 (by decide) (fun c35 => ?_) (fun c35 => ?_)
                  ·
                    refine V_aload_n 0 d_Mod_bore_171 rfl rfl ?_
                    refine V_getR fa_Mod_7 sk_116 rfl d_Mod_bore_172 ?_
                    refine V_bipush 80 d_Mod_bore_175 (by decide) ?_
                    refine V_iload_n 1 d_Mod_bore_177 rfl rfl ?_
                    refine V_iadd tc_80 oE (by (first | decide +kernel | omega)) d_Mod_bore_178 (fun z36 z36e z36E => ?_)
                    refine V_iload d_Mod_bore_179 rfl ?_
                    refine N_iast sk_117 z36E (by (first | decide +kernel | omega)) d_Mod_bore_181 (fun h37 eh37 => ?_)
                    have hI38 : Inv h37 := inv_full hI eh37 (st_lo (by (first | decide +kernel | omega)))
                    have f39 : fr S_Mod_boreX h h37 := fr_put f0 eh37 rfl
                    refine V_aload_n 0 d_Mod_bore_182 rfl rfl ?_
                    refine V_getR fa_Mod_7 sk_116 rfl d_Mod_bore_183 ?_
                    refine V_bipush 64 d_Mod_bore_186 (by decide) ?_
                    refine V_iload_n 2 d_Mod_bore_188 rfl rfl ?_
                    refine V_iadd tc_64 cE (by (first | decide +kernel | omega)) d_Mod_bore_189 (fun z40 z40e z40E => ?_)
                    refine V_iload d_Mod_bore_190 rfl ?_
                    refine N_iast sk_117 z40E (by (first | decide +kernel | omega)) d_Mod_bore_192 (fun h41 eh41 => ?_)
                    have hI42 : Inv h41 := inv_full hI38 eh41 (st_lo (by (first | decide +kernel | omega)))
                    have f43 : fr S_Mod_boreX h h41 := fr_put f39 eh41 rfl
                    refine V_aload_n 0 d_Mod_bore_193 rfl rfl ?_
                    refine V_iload_n 2 d_Mod_bore_194 rfl rfl ?_
                    refine N_callVI [.int c] [] cv_Mod_192 sk_116 rfl d_Mod_bore_195 rfl (Nat.le_of_ble_eq_true rfl) (by decide) (by decide) (c_Mod_isWellX h41 hI42 c cZ cE (by (first | decide +kernel | omega))) (fun z44 h45 z44Z z44E p46 => ?_)
                    obtain ⟨eh45, p46⟩ := p46
                    subst eh45
                    rw [show h41.1 117 (0 + cZ).toNat = uv from kn_nei eh41 (kn_nei eh37 uvK (by (first | decide +kernel | omega))) (by (first | decide +kernel | omega)), show h41.1 117 (64 + cZ).toNat = z21 from kn_put eh41] at p46
                    unfold bW at p46
                    refine N_callSI [.int z44] [] cs_Mod_196 d_Mod_bore_198 rfl (Nat.le_of_ble_eq_true rfl) (by decide) (by decide) (c_Mod_flag h41 z44 z44Z z44E) (fun z47 h48 z47Z z47E p49 => ?_)
                    obtain ⟨eh48, p49⟩ := p49
                    subst eh48
                    exact V_iret rfl d_Mod_bore_201 ⟨z47, rfl, ⟨hI42, f43, (by rw [lvK, pvK, bvK, uvK, xK, yK]; exact BE_of (by (first | decide +kernel | omega)) lvE oE z25E z25E hdp hm z24e z25e (Or.inr ⟨by unfold bW; omega, rfl⟩) (Or.inr ⟨by (first | decide +kernel | omega), (by rw [eh41, eh37] <;> rfl), by unfold bW; omega⟩))⟩⟩
                  ·
                    refine V_bipush (-2) d_Mod_bore_168 (by decide) ?_
                    exact V_iret rfl d_Mod_bore_170 ⟨(-2), rfl, ⟨hI, f0, (by rw [lvK, pvK, bvK, uvK, xK, yK]; exact BE_of (by (first | decide +kernel | omega)) lvE oE z25E z25E hdp hm z24e z25e (Or.inr ⟨by unfold bW; omega, rfl⟩) (Or.inl ⟨by (first | decide +kernel | omega), rfl, tc_m2⟩))⟩⟩
            ·
              exact absurd c30 (by decide)
          ·
            replace p28 := p28.resolve_left (fun q => by (first | decide +kernel | omega))
            refine V_aload_n 0 d_Mod_bore_100 rfl rfl ?_
            refine V_getR fa_Mod_7 sk_116 rfl d_Mod_bore_101 ?_
            refine V_iconst 0 d_Mod_bore_104 (by decide) ?_
            refine V_iload_n 2 d_Mod_bore_105 rfl rfl ?_
            refine V_iadd tc_0 cE (by (first | decide +kernel | omega)) d_Mod_bore_106 (fun z50 z50e z50E => ?_)
            refine N_ialdK sk_117 z50E (by (first | decide +kernel | omega)) d_Mod_bore_107 uvK ?_
            refine V_iload d_Mod_bore_108 rfl ?_
            refine N_callSI [.int uv, .int z21] [] cs_Mod_188 d_Mod_bore_110 rfl (Nat.le_of_ble_eq_true rfl) (by decide) (by decide) (c_Mod_isWellByX h uv uvZ uvE z21 z21Z z21E) (fun z52 h53 z52Z z52E p54 => ?_)
            obtain ⟨eh53, p54⟩ := p54
            subst eh53
            refine V_if_eq 120 z52E d_Mod_bore_113 (by decide) (fun c55 => ?_) (fun c55 => ?_)
            ·
              replace p54 := p54.resolve_left (fun q => by (first | decide +kernel | omega))
              refine V_iconst 0 d_Mod_bore_120 (by decide) ?_
              refine V_istore 7 [some (.ref 116), some (.int o), some (.int c), some (.int d), some (.int 0), some (.int z21), some (.int z25), some (.int 0), none] d_Mod_bore_121 (by decide) rfl rfl ?_
              refine V_iload d_Mod_bore_123 rfl ?_
              refine V_if_eq 138 tc_0 d_Mod_bore_125 (by decide) (fun c56 => ?_) (fun c56 => ?_)
              ·
                refine V_iload d_Mod_bore_138 rfl ?_
                refine V_istore 8 [some (.ref 116), some (.int o), some (.int c), some (.int d), some (.int 0), some (.int z21), some (.int z25), some (.int 0), some (.int z25)] d_Mod_bore_140 (by decide) rfl rfl ?_
                refine V_aload_n 0 d_Mod_bore_142 rfl rfl ?_
                refine V_getR fa_Mod_7 sk_116 rfl d_Mod_bore_143 ?_
                refine V_bipush 48 d_Mod_bore_146 (by decide) ?_
                refine V_iload_n 2 d_Mod_bore_148 rfl rfl ?_
                refine V_iadd tc_48 cE (by (first | decide +kernel | omega)) d_Mod_bore_149 (fun z57 z57e z57E => ?_)
                refine N_ialdK sk_117 z57E (by (first | decide +kernel | omega)) d_Mod_bore_150 lvK ?_
                refine V_iload_n 1 d_Mod_bore_151 rfl rfl ?_
                refine V_icmp_ne 168 lvE oE d_Mod_bore_152 (by decide) (fun c59 => ?_) (fun c59 => ?_)
                ·
                  refine V_bipush (-2) d_Mod_bore_168 (by decide) ?_
                  exact V_iret rfl d_Mod_bore_170 ⟨(-2), rfl, ⟨hI, f0, (by rw [lvK, pvK, bvK, uvK, xK, yK]; exact BE_of (by (first | decide +kernel | omega)) lvE oE z25E z25E hdp hm z24e z25e (Or.inr ⟨by unfold bW; omega, rfl⟩) (Or.inl ⟨by (first | decide +kernel | omega), rfl, tc_m2⟩))⟩⟩
                ·
                  refine V_iload d_Mod_bore_155 rfl ?_
                  refine V_if_lt 168 z25E d_Mod_bore_157 (by decide) (fun c60 => ?_) (fun c60 => ?_)
                  ·
                    refine V_bipush (-2) d_Mod_bore_168 (by decide) ?_
                    exact V_iret rfl d_Mod_bore_170 ⟨(-2), rfl, ⟨hI, f0, (by rw [lvK, pvK, bvK, uvK, xK, yK]; exact BE_of (by (first | decide +kernel | omega)) lvE oE z25E z25E hdp hm z24e z25e (Or.inr ⟨by unfold bW; omega, rfl⟩) (Or.inl ⟨by (first | decide +kernel | omega), rfl, tc_m2⟩))⟩⟩
                  ·
                    refine V_iload d_Mod_bore_160 rfl ?_
                    refine V_sipush 999 d_Mod_bore_162 (by decide) ?_
                    refine V_icmp_le 171 z25E tc_999 d_Mod_bore_165 (by decide) (fun c61 => ?_) (fun c61 => ?_)
                    ·
                      refine V_aload_n 0 d_Mod_bore_171 rfl rfl ?_
                      refine V_getR fa_Mod_7 sk_116 rfl d_Mod_bore_172 ?_
                      refine V_bipush 80 d_Mod_bore_175 (by decide) ?_
                      refine V_iload_n 1 d_Mod_bore_177 rfl rfl ?_
                      refine V_iadd tc_80 oE (by (first | decide +kernel | omega)) d_Mod_bore_178 (fun z62 z62e z62E => ?_)
                      refine V_iload d_Mod_bore_179 rfl ?_
                      refine N_iast sk_117 z62E (by (first | decide +kernel | omega)) d_Mod_bore_181 (fun h63 eh63 => ?_)
                      have hI64 : Inv h63 := inv_full hI eh63 (st_lo (by (first | decide +kernel | omega)))
                      have f65 : fr S_Mod_boreX h h63 := fr_put f0 eh63 rfl
                      refine V_aload_n 0 d_Mod_bore_182 rfl rfl ?_
                      refine V_getR fa_Mod_7 sk_116 rfl d_Mod_bore_183 ?_
                      refine V_bipush 64 d_Mod_bore_186 (by decide) ?_
                      refine V_iload_n 2 d_Mod_bore_188 rfl rfl ?_
                      refine V_iadd tc_64 cE (by (first | decide +kernel | omega)) d_Mod_bore_189 (fun z66 z66e z66E => ?_)
                      refine V_iload d_Mod_bore_190 rfl ?_
                      refine N_iast sk_117 z66E (by (first | decide +kernel | omega)) d_Mod_bore_192 (fun h67 eh67 => ?_)
                      have hI68 : Inv h67 := inv_full hI64 eh67 (st_lo (by (first | decide +kernel | omega)))
                      have f69 : fr S_Mod_boreX h h67 := fr_put f65 eh67 rfl
                      refine V_aload_n 0 d_Mod_bore_193 rfl rfl ?_
                      refine V_iload_n 2 d_Mod_bore_194 rfl rfl ?_
                      refine N_callVI [.int c] [] cv_Mod_192 sk_116 rfl d_Mod_bore_195 rfl (Nat.le_of_ble_eq_true rfl) (by decide) (by decide) (c_Mod_isWellX h67 hI68 c cZ cE (by (first | decide +kernel | omega))) (fun z70 h71 z70Z z70E p72 => ?_)
                      obtain ⟨eh71, p72⟩ := p72
                      subst eh71
                      rw [show h67.1 117 (0 + cZ).toNat = uv from kn_nei eh67 (kn_nei eh63 uvK (by (first | decide +kernel | omega))) (by (first | decide +kernel | omega)), show h67.1 117 (64 + cZ).toNat = z21 from kn_put eh67] at p72
                      unfold bW at p72
                      refine N_callSI [.int z70] [] cs_Mod_196 d_Mod_bore_198 rfl (Nat.le_of_ble_eq_true rfl) (by decide) (by decide) (c_Mod_flag h67 z70 z70Z z70E) (fun z73 h74 z73Z z73E p75 => ?_)
                      obtain ⟨eh74, p75⟩ := p75
                      subst eh74
                      exact V_iret rfl d_Mod_bore_201 ⟨z73, rfl, ⟨hI68, f69, (by rw [lvK, pvK, bvK, uvK, xK, yK]; exact BE_of (by (first | decide +kernel | omega)) lvE oE z25E z25E hdp hm z24e z25e (Or.inr ⟨by unfold bW; omega, rfl⟩) (Or.inr ⟨by (first | decide +kernel | omega), (by rw [eh67, eh63] <;> rfl), by unfold bW; omega⟩))⟩⟩
                    ·
                      refine V_bipush (-2) d_Mod_bore_168 (by decide) ?_
                      exact V_iret rfl d_Mod_bore_170 ⟨(-2), rfl, ⟨hI, f0, (by rw [lvK, pvK, bvK, uvK, xK, yK]; exact BE_of (by (first | decide +kernel | omega)) lvE oE z25E z25E hdp hm z24e z25e (Or.inr ⟨by unfold bW; omega, rfl⟩) (Or.inl ⟨by (first | decide +kernel | omega), rfl, tc_m2⟩))⟩⟩
              ·
                exact absurd c56 (by decide)
            ·
              replace p54 := p54.resolve_right (fun q => by (first | decide +kernel | omega))
              refine V_iconst 1 d_Mod_bore_116 (by decide) ?_
              refine V_goto 121 d_Mod_bore_117 (by decide) ?_
              refine V_istore 7 [some (.ref 116), some (.int o), some (.int c), some (.int d), some (.int 0), some (.int z21), some (.int z25), some (.int 1), none] d_Mod_bore_121 (by decide) rfl rfl ?_
              refine V_iload d_Mod_bore_123 rfl ?_
              refine V_if_eq 138 tc_1 d_Mod_bore_125 (by decide) (fun c76 => ?_) (fun c76 => ?_)
              ·
                exact absurd c76 (by decide)
              ·
                refine V_iload d_Mod_bore_128 rfl ?_
                refine V_aload_n 0 d_Mod_bore_130 rfl rfl ?_
                refine N_getK fa_Mod_90 sk_116 rfl d_Mod_bore_131 yK ?_
                refine N_iaddw d_Mod_bore_134 (fun z77 z77Z z77E z77e => ?_)
                refine V_goto 140 d_Mod_bore_135 (by decide) ?_
                refine V_istore 8 [some (.ref 116), some (.int o), some (.int c), some (.int d), some (.int 0), some (.int z21), some (.int z25), some (.int 1), some (.int z77)] d_Mod_bore_140 (by decide) rfl rfl ?_
                refine V_aload_n 0 d_Mod_bore_142 rfl rfl ?_
                refine V_getR fa_Mod_7 sk_116 rfl d_Mod_bore_143 ?_
                refine V_bipush 48 d_Mod_bore_146 (by decide) ?_
                refine V_iload_n 2 d_Mod_bore_148 rfl rfl ?_
                refine V_iadd tc_48 cE (by (first | decide +kernel | omega)) d_Mod_bore_149 (fun z78 z78e z78E => ?_)
                refine N_ialdK sk_117 z78E (by (first | decide +kernel | omega)) d_Mod_bore_150 lvK ?_
                refine V_iload_n 1 d_Mod_bore_151 rfl rfl ?_
                refine V_icmp_ne 168 lvE oE d_Mod_bore_152 (by decide) (fun c80 => ?_) (fun c80 => ?_)
                ·
                  refine V_bipush (-2) d_Mod_bore_168 (by decide) ?_
                  exact V_iret rfl d_Mod_bore_170 ⟨(-2), rfl, ⟨hI, f0, (by rw [lvK, pvK, bvK, uvK, xK, yK]; exact BE_of (by (first | decide +kernel | omega)) lvE oE z25E z77E hdp hm z24e z25e (Or.inl ⟨by unfold bW; omega, z77e⟩) (Or.inl ⟨by (first | decide +kernel | omega), rfl, tc_m2⟩))⟩⟩
                ·
                  refine V_iload d_Mod_bore_155 rfl ?_
                  refine V_if_lt 168 z25E d_Mod_bore_157 (by decide) (fun c81 => ?_) (fun c81 => ?_)
                  ·
                    refine V_bipush (-2) d_Mod_bore_168 (by decide) ?_
                    exact V_iret rfl d_Mod_bore_170 ⟨(-2), rfl, ⟨hI, f0, (by rw [lvK, pvK, bvK, uvK, xK, yK]; exact BE_of (by (first | decide +kernel | omega)) lvE oE z25E z77E hdp hm z24e z25e (Or.inl ⟨by unfold bW; omega, z77e⟩) (Or.inl ⟨by (first | decide +kernel | omega), rfl, tc_m2⟩))⟩⟩
                  ·
                    refine V_iload d_Mod_bore_160 rfl ?_
                    refine V_sipush 999 d_Mod_bore_162 (by decide) ?_
                    refine V_icmp_le 171 z77E tc_999 d_Mod_bore_165 (by decide) (fun c82 => ?_) (fun c82 => ?_)
                    ·
                      refine V_aload_n 0 d_Mod_bore_171 rfl rfl ?_
                      refine V_getR fa_Mod_7 sk_116 rfl d_Mod_bore_172 ?_
                      refine V_bipush 80 d_Mod_bore_175 (by decide) ?_
                      refine V_iload_n 1 d_Mod_bore_177 rfl rfl ?_
                      refine V_iadd tc_80 oE (by (first | decide +kernel | omega)) d_Mod_bore_178 (fun z83 z83e z83E => ?_)
                      refine V_iload d_Mod_bore_179 rfl ?_
                      refine N_iast sk_117 z83E (by (first | decide +kernel | omega)) d_Mod_bore_181 (fun h84 eh84 => ?_)
                      have hI85 : Inv h84 := inv_full hI eh84 (st_lo (by (first | decide +kernel | omega)))
                      have f86 : fr S_Mod_boreX h h84 := fr_put f0 eh84 rfl
                      refine V_aload_n 0 d_Mod_bore_182 rfl rfl ?_
                      refine V_getR fa_Mod_7 sk_116 rfl d_Mod_bore_183 ?_
                      refine V_bipush 64 d_Mod_bore_186 (by decide) ?_
                      refine V_iload_n 2 d_Mod_bore_188 rfl rfl ?_
                      refine V_iadd tc_64 cE (by (first | decide +kernel | omega)) d_Mod_bore_189 (fun z87 z87e z87E => ?_)
                      refine V_iload d_Mod_bore_190 rfl ?_
                      refine N_iast sk_117 z87E (by (first | decide +kernel | omega)) d_Mod_bore_192 (fun h88 eh88 => ?_)
                      have hI89 : Inv h88 := inv_full hI85 eh88 (st_lo (by (first | decide +kernel | omega)))
                      have f90 : fr S_Mod_boreX h h88 := fr_put f86 eh88 rfl
                      refine V_aload_n 0 d_Mod_bore_193 rfl rfl ?_
                      refine V_iload_n 2 d_Mod_bore_194 rfl rfl ?_
                      refine N_callVI [.int c] [] cv_Mod_192 sk_116 rfl d_Mod_bore_195 rfl (Nat.le_of_ble_eq_true rfl) (by decide) (by decide) (c_Mod_isWellX h88 hI89 c cZ cE (by (first | decide +kernel | omega))) (fun z91 h92 z91Z z91E p93 => ?_)
                      obtain ⟨eh92, p93⟩ := p93
                      subst eh92
                      rw [show h88.1 117 (0 + cZ).toNat = uv from kn_nei eh88 (kn_nei eh84 uvK (by (first | decide +kernel | omega))) (by (first | decide +kernel | omega)), show h88.1 117 (64 + cZ).toNat = z21 from kn_put eh88] at p93
                      unfold bW at p93
                      refine N_callSI [.int z91] [] cs_Mod_196 d_Mod_bore_198 rfl (Nat.le_of_ble_eq_true rfl) (by decide) (by decide) (c_Mod_flag h88 z91 z91Z z91E) (fun z94 h95 z94Z z94E p96 => ?_)
                      obtain ⟨eh95, p96⟩ := p96
                      subst eh95
                      exact V_iret rfl d_Mod_bore_201 ⟨z94, rfl, ⟨hI89, f90, (by rw [lvK, pvK, bvK, uvK, xK, yK]; exact BE_of (by (first | decide +kernel | omega)) lvE oE z25E z77E hdp hm z24e z25e (Or.inl ⟨by unfold bW; omega, z77e⟩) (Or.inr ⟨by (first | decide +kernel | omega), (by rw [eh88, eh84] <;> rfl), by unfold bW; omega⟩))⟩⟩
                    ·
                      refine V_bipush (-2) d_Mod_bore_168 (by decide) ?_
                      exact V_iret rfl d_Mod_bore_170 ⟨(-2), rfl, ⟨hI, f0, (by rw [lvK, pvK, bvK, uvK, xK, yK]; exact BE_of (by (first | decide +kernel | omega)) lvE oE z25E z77E hdp hm z24e z25e (Or.inl ⟨by unfold bW; omega, z77e⟩) (Or.inl ⟨by (first | decide +kernel | omega), rfl, tc_m2⟩))⟩⟩
        ·
          refine V_iload_n 3 d_Mod_bore_42 rfl rfl ?_
          refine V_aload_n 0 d_Mod_bore_43 rfl rfl ?_
          refine V_getR fa_Mod_7 sk_116 rfl d_Mod_bore_44 ?_
          refine V_bipush 64 d_Mod_bore_47 (by decide) ?_
          refine V_iload_n 2 d_Mod_bore_49 rfl rfl ?_
          refine V_iadd tc_64 cE (by (first | decide +kernel | omega)) d_Mod_bore_50 (fun z97 z97e z97E => ?_)
          refine N_ialdK sk_117 z97E (by (first | decide +kernel | omega)) d_Mod_bore_51 bvK ?_
          refine N_isubw d_Mod_bore_52 (fun z99 z99Z z99E z99e => ?_)
          refine V_goto 57 d_Mod_bore_53 (by decide) ?_
          refine V_istore 4 [some (.ref 116), some (.int o), some (.int c), some (.int d), some (.int z99), none, none, none, none] d_Mod_bore_57 (by decide) rfl rfl ?_
          have hm : z99 = bM bv d := bM_1 bvE dE (by (first | decide +kernel | omega)) z99e
          refine V_aload_n 0 d_Mod_bore_59 rfl rfl ?_
          refine V_getR fa_Mod_7 sk_116 rfl d_Mod_bore_60 ?_
          refine V_bipush 64 d_Mod_bore_63 (by decide) ?_
          refine V_iload_n 2 d_Mod_bore_65 rfl rfl ?_
          refine V_iadd tc_64 cE (by (first | decide +kernel | omega)) d_Mod_bore_66 (fun z100 z100e z100E => ?_)
          refine N_ialdK sk_117 z100E (by (first | decide +kernel | omega)) d_Mod_bore_67 bvK ?_
          refine V_iload d_Mod_bore_68 rfl ?_
          refine N_iaddw d_Mod_bore_70 (fun z102 z102Z z102E z102e => ?_)
          have hdp : z102 = bD bv d := bD_add hm z102e
          have hdz : z102Z = dZ ∧ bvZ < dZ ∨ z102Z = bvZ ∧ dZ ≤ bvZ := bD_z hdp z102E bvE dE
          refine V_istore 5 [some (.ref 116), some (.int o), some (.int c), some (.int d), some (.int z99), some (.int z102), none, none, none] d_Mod_bore_71 (by decide) rfl rfl ?_
          refine V_aload_n 0 d_Mod_bore_73 rfl rfl ?_
          refine V_getR fa_Mod_7 sk_116 rfl d_Mod_bore_74 ?_
          refine V_bipush 80 d_Mod_bore_77 (by decide) ?_
          refine V_iload_n 1 d_Mod_bore_79 rfl rfl ?_
          refine V_iadd tc_80 oE (by (first | decide +kernel | omega)) d_Mod_bore_80 (fun z103 z103e z103E => ?_)
          refine N_ialdK sk_117 z103E (by (first | decide +kernel | omega)) d_Mod_bore_81 pvK ?_
          refine V_aload_n 0 d_Mod_bore_82 rfl rfl ?_
          refine N_getK fa_Mod_87 sk_116 rfl d_Mod_bore_83 xK ?_
          refine V_iload d_Mod_bore_86 rfl ?_
          refine N_imulw d_Mod_bore_88 (fun z105 z105Z z105E z105e => ?_)
          refine N_isubw d_Mod_bore_89 (fun z106 z106Z z106E z106e => ?_)
          refine V_istore 6 [some (.ref 116), some (.int o), some (.int c), some (.int d), some (.int z99), some (.int z102), some (.int z106), none, none] d_Mod_bore_90 (by decide) rfl rfl ?_
          refine V_aload_n 0 d_Mod_bore_92 rfl rfl ?_
          refine V_iload_n 2 d_Mod_bore_93 rfl rfl ?_
          refine N_callVI [.int c] [] cv_Mod_192 sk_116 rfl d_Mod_bore_94 rfl (Nat.le_of_ble_eq_true rfl) (by decide) (by decide) (c_Mod_isWellX h hI c cZ cE (by (first | decide +kernel | omega))) (fun z107 h108 z107Z z107E p109 => ?_)
          obtain ⟨eh108, p109⟩ := p109
          subst eh108
          rw [uvK, bvK] at p109
          unfold bW at p109
          refine V_if_ne 120 z107E d_Mod_bore_97 (by decide) (fun c110 => ?_) (fun c110 => ?_)
          ·
            replace p109 := p109.resolve_right (fun q => by (first | decide +kernel | omega))
            refine V_iconst 0 d_Mod_bore_120 (by decide) ?_
            refine V_istore 7 [some (.ref 116), some (.int o), some (.int c), some (.int d), some (.int z99), some (.int z102), some (.int z106), some (.int 0), none] d_Mod_bore_121 (by decide) rfl rfl ?_
            refine V_iload d_Mod_bore_123 rfl ?_
            refine V_if_eq 138 tc_0 d_Mod_bore_125 (by decide) (fun c111 => ?_) (fun c111 => ?_)
            ·
              refine V_iload d_Mod_bore_138 rfl ?_
              refine V_istore 8 [some (.ref 116), some (.int o), some (.int c), some (.int d), some (.int z99), some (.int z102), some (.int z106), some (.int 0), some (.int z106)] d_Mod_bore_140 (by decide) rfl rfl ?_
              refine V_aload_n 0 d_Mod_bore_142 rfl rfl ?_
              refine V_getR fa_Mod_7 sk_116 rfl d_Mod_bore_143 ?_
              refine V_bipush 48 d_Mod_bore_146 (by decide) ?_
              refine V_iload_n 2 d_Mod_bore_148 rfl rfl ?_
              refine V_iadd tc_48 cE (by (first | decide +kernel | omega)) d_Mod_bore_149 (fun z112 z112e z112E => ?_)
              refine N_ialdK sk_117 z112E (by (first | decide +kernel | omega)) d_Mod_bore_150 lvK ?_
              refine V_iload_n 1 d_Mod_bore_151 rfl rfl ?_
              refine V_icmp_ne 168 lvE oE d_Mod_bore_152 (by decide) (fun c114 => ?_) (fun c114 => ?_)
              ·
                refine V_bipush (-2) d_Mod_bore_168 (by decide) ?_
                exact V_iret rfl d_Mod_bore_170 ⟨(-2), rfl, ⟨hI, f0, (by rw [lvK, pvK, bvK, uvK, xK, yK]; exact BE_of (by (first | decide +kernel | omega)) lvE oE z106E z106E hdp hm z105e z106e (Or.inr ⟨by unfold bW; omega, rfl⟩) (Or.inl ⟨by (first | decide +kernel | omega), rfl, tc_m2⟩))⟩⟩
              ·
                refine V_iload d_Mod_bore_155 rfl ?_
                refine V_if_lt 168 z106E d_Mod_bore_157 (by decide) (fun c115 => ?_) (fun c115 => ?_)
                ·
                  refine V_bipush (-2) d_Mod_bore_168 (by decide) ?_
                  exact V_iret rfl d_Mod_bore_170 ⟨(-2), rfl, ⟨hI, f0, (by rw [lvK, pvK, bvK, uvK, xK, yK]; exact BE_of (by (first | decide +kernel | omega)) lvE oE z106E z106E hdp hm z105e z106e (Or.inr ⟨by unfold bW; omega, rfl⟩) (Or.inl ⟨by (first | decide +kernel | omega), rfl, tc_m2⟩))⟩⟩
                ·
                  refine V_iload d_Mod_bore_160 rfl ?_
                  refine V_sipush 999 d_Mod_bore_162 (by decide) ?_
                  refine V_icmp_le 171 z106E tc_999 d_Mod_bore_165 (by decide) (fun c116 => ?_) (fun c116 => ?_)
                  ·
                    refine V_aload_n 0 d_Mod_bore_171 rfl rfl ?_
                    refine V_getR fa_Mod_7 sk_116 rfl d_Mod_bore_172 ?_
                    refine V_bipush 80 d_Mod_bore_175 (by decide) ?_
                    refine V_iload_n 1 d_Mod_bore_177 rfl rfl ?_
                    refine V_iadd tc_80 oE (by (first | decide +kernel | omega)) d_Mod_bore_178 (fun z117 z117e z117E => ?_)
                    refine V_iload d_Mod_bore_179 rfl ?_
                    refine N_iast sk_117 z117E (by (first | decide +kernel | omega)) d_Mod_bore_181 (fun h118 eh118 => ?_)
                    have hI119 : Inv h118 := inv_full hI eh118 (st_lo (by (first | decide +kernel | omega)))
                    have f120 : fr S_Mod_boreX h h118 := fr_put f0 eh118 rfl
                    refine V_aload_n 0 d_Mod_bore_182 rfl rfl ?_
                    refine V_getR fa_Mod_7 sk_116 rfl d_Mod_bore_183 ?_
                    refine V_bipush 64 d_Mod_bore_186 (by decide) ?_
                    refine V_iload_n 2 d_Mod_bore_188 rfl rfl ?_
                    refine V_iadd tc_64 cE (by (first | decide +kernel | omega)) d_Mod_bore_189 (fun z121 z121e z121E => ?_)
                    refine V_iload d_Mod_bore_190 rfl ?_
                    refine N_iast sk_117 z121E (by (first | decide +kernel | omega)) d_Mod_bore_192 (fun h122 eh122 => ?_)
                    have hI123 : Inv h122 := inv_full hI119 eh122 (st_lo (by (first | decide +kernel | omega)))
                    have f124 : fr S_Mod_boreX h h122 := fr_put f120 eh122 rfl
                    refine V_aload_n 0 d_Mod_bore_193 rfl rfl ?_
                    refine V_iload_n 2 d_Mod_bore_194 rfl rfl ?_
                    refine N_callVI [.int c] [] cv_Mod_192 sk_116 rfl d_Mod_bore_195 rfl (Nat.le_of_ble_eq_true rfl) (by decide) (by decide) (c_Mod_isWellX h122 hI123 c cZ cE (by (first | decide +kernel | omega))) (fun z125 h126 z125Z z125E p127 => ?_)
                    obtain ⟨eh126, p127⟩ := p127
                    subst eh126
                    rw [show h122.1 117 (0 + cZ).toNat = uv from kn_nei eh122 (kn_nei eh118 uvK (by (first | decide +kernel | omega))) (by (first | decide +kernel | omega)), show h122.1 117 (64 + cZ).toNat = z102 from kn_put eh122] at p127
                    unfold bW at p127
                    refine N_callSI [.int z125] [] cs_Mod_196 d_Mod_bore_198 rfl (Nat.le_of_ble_eq_true rfl) (by decide) (by decide) (c_Mod_flag h122 z125 z125Z z125E) (fun z128 h129 z128Z z128E p130 => ?_)
                    obtain ⟨eh129, p130⟩ := p130
                    subst eh129
                    exact V_iret rfl d_Mod_bore_201 ⟨z128, rfl, ⟨hI123, f124, (by rw [lvK, pvK, bvK, uvK, xK, yK]; exact BE_of (by (first | decide +kernel | omega)) lvE oE z106E z106E hdp hm z105e z106e (Or.inr ⟨by unfold bW; omega, rfl⟩) (Or.inr ⟨by (first | decide +kernel | omega), (by rw [eh122, eh118] <;> rfl), by unfold bW; omega⟩))⟩⟩
                  ·
                    refine V_bipush (-2) d_Mod_bore_168 (by decide) ?_
                    exact V_iret rfl d_Mod_bore_170 ⟨(-2), rfl, ⟨hI, f0, (by rw [lvK, pvK, bvK, uvK, xK, yK]; exact BE_of (by (first | decide +kernel | omega)) lvE oE z106E z106E hdp hm z105e z106e (Or.inr ⟨by unfold bW; omega, rfl⟩) (Or.inl ⟨by (first | decide +kernel | omega), rfl, tc_m2⟩))⟩⟩
            ·
              exact absurd c111 (by decide)
          ·
            replace p109 := p109.resolve_left (fun q => by (first | decide +kernel | omega))
            refine V_aload_n 0 d_Mod_bore_100 rfl rfl ?_
            refine V_getR fa_Mod_7 sk_116 rfl d_Mod_bore_101 ?_
            refine V_iconst 0 d_Mod_bore_104 (by decide) ?_
            refine V_iload_n 2 d_Mod_bore_105 rfl rfl ?_
            refine V_iadd tc_0 cE (by (first | decide +kernel | omega)) d_Mod_bore_106 (fun z131 z131e z131E => ?_)
            refine N_ialdK sk_117 z131E (by (first | decide +kernel | omega)) d_Mod_bore_107 uvK ?_
            refine V_iload d_Mod_bore_108 rfl ?_
            refine N_callSI [.int uv, .int z102] [] cs_Mod_188 d_Mod_bore_110 rfl (Nat.le_of_ble_eq_true rfl) (by decide) (by decide) (c_Mod_isWellByX h uv uvZ uvE z102 z102Z z102E) (fun z133 h134 z133Z z133E p135 => ?_)
            obtain ⟨eh134, p135⟩ := p135
            subst eh134
            refine V_if_eq 120 z133E d_Mod_bore_113 (by decide) (fun c136 => ?_) (fun c136 => ?_)
            ·
              replace p135 := p135.resolve_left (fun q => by (first | decide +kernel | omega))
              refine V_iconst 0 d_Mod_bore_120 (by decide) ?_
              refine V_istore 7 [some (.ref 116), some (.int o), some (.int c), some (.int d), some (.int z99), some (.int z102), some (.int z106), some (.int 0), none] d_Mod_bore_121 (by decide) rfl rfl ?_
              refine V_iload d_Mod_bore_123 rfl ?_
              refine V_if_eq 138 tc_0 d_Mod_bore_125 (by decide) (fun c137 => ?_) (fun c137 => ?_)
              ·
                refine V_iload d_Mod_bore_138 rfl ?_
                refine V_istore 8 [some (.ref 116), some (.int o), some (.int c), some (.int d), some (.int z99), some (.int z102), some (.int z106), some (.int 0), some (.int z106)] d_Mod_bore_140 (by decide) rfl rfl ?_
                refine V_aload_n 0 d_Mod_bore_142 rfl rfl ?_
                refine V_getR fa_Mod_7 sk_116 rfl d_Mod_bore_143 ?_
                refine V_bipush 48 d_Mod_bore_146 (by decide) ?_
                refine V_iload_n 2 d_Mod_bore_148 rfl rfl ?_
                refine V_iadd tc_48 cE (by (first | decide +kernel | omega)) d_Mod_bore_149 (fun z138 z138e z138E => ?_)
                refine N_ialdK sk_117 z138E (by (first | decide +kernel | omega)) d_Mod_bore_150 lvK ?_
                refine V_iload_n 1 d_Mod_bore_151 rfl rfl ?_
                refine V_icmp_ne 168 lvE oE d_Mod_bore_152 (by decide) (fun c140 => ?_) (fun c140 => ?_)
                ·
                  refine V_bipush (-2) d_Mod_bore_168 (by decide) ?_
                  exact V_iret rfl d_Mod_bore_170 ⟨(-2), rfl, ⟨hI, f0, (by rw [lvK, pvK, bvK, uvK, xK, yK]; exact BE_of (by (first | decide +kernel | omega)) lvE oE z106E z106E hdp hm z105e z106e (Or.inr ⟨by unfold bW; omega, rfl⟩) (Or.inl ⟨by (first | decide +kernel | omega), rfl, tc_m2⟩))⟩⟩
                ·
                  refine V_iload d_Mod_bore_155 rfl ?_
                  refine V_if_lt 168 z106E d_Mod_bore_157 (by decide) (fun c141 => ?_) (fun c141 => ?_)
                  ·
                    refine V_bipush (-2) d_Mod_bore_168 (by decide) ?_
                    exact V_iret rfl d_Mod_bore_170 ⟨(-2), rfl, ⟨hI, f0, (by rw [lvK, pvK, bvK, uvK, xK, yK]; exact BE_of (by (first | decide +kernel | omega)) lvE oE z106E z106E hdp hm z105e z106e (Or.inr ⟨by unfold bW; omega, rfl⟩) (Or.inl ⟨by (first | decide +kernel | omega), rfl, tc_m2⟩))⟩⟩
                  ·
                    refine V_iload d_Mod_bore_160 rfl ?_
                    refine V_sipush 999 d_Mod_bore_162 (by decide) ?_
                    refine V_icmp_le 171 z106E tc_999 d_Mod_bore_165 (by decide) (fun c142 => ?_) (fun c142 => ?_)
                    ·
                      refine V_aload_n 0 d_Mod_bore_171 rfl rfl ?_
                      refine V_getR fa_Mod_7 sk_116 rfl d_Mod_bore_172 ?_
                      refine V_bipush 80 d_Mod_bore_175 (by decide) ?_
                      refine V_iload_n 1 d_Mod_bore_177 rfl rfl ?_
                      refine V_iadd tc_80 oE (by (first | decide +kernel | omega)) d_Mod_bore_178 (fun z143 z143e z143E => ?_)
                      refine V_iload d_Mod_bore_179 rfl ?_
                      refine N_iast sk_117 z143E (by (first | decide +kernel | omega)) d_Mod_bore_181 (fun h144 eh144 => ?_)
                      have hI145 : Inv h144 := inv_full hI eh144 (st_lo (by (first | decide +kernel | omega)))
                      have f146 : fr S_Mod_boreX h h144 := fr_put f0 eh144 rfl
                      refine V_aload_n 0 d_Mod_bore_182 rfl rfl ?_
                      refine V_getR fa_Mod_7 sk_116 rfl d_Mod_bore_183 ?_
                      refine V_bipush 64 d_Mod_bore_186 (by decide) ?_
                      refine V_iload_n 2 d_Mod_bore_188 rfl rfl ?_
                      refine V_iadd tc_64 cE (by (first | decide +kernel | omega)) d_Mod_bore_189 (fun z147 z147e z147E => ?_)
                      refine V_iload d_Mod_bore_190 rfl ?_
                      refine N_iast sk_117 z147E (by (first | decide +kernel | omega)) d_Mod_bore_192 (fun h148 eh148 => ?_)
                      have hI149 : Inv h148 := inv_full hI145 eh148 (st_lo (by (first | decide +kernel | omega)))
                      have f150 : fr S_Mod_boreX h h148 := fr_put f146 eh148 rfl
                      refine V_aload_n 0 d_Mod_bore_193 rfl rfl ?_
                      refine V_iload_n 2 d_Mod_bore_194 rfl rfl ?_
                      refine N_callVI [.int c] [] cv_Mod_192 sk_116 rfl d_Mod_bore_195 rfl (Nat.le_of_ble_eq_true rfl) (by decide) (by decide) (c_Mod_isWellX h148 hI149 c cZ cE (by (first | decide +kernel | omega))) (fun z151 h152 z151Z z151E p153 => ?_)
                      obtain ⟨eh152, p153⟩ := p153
                      subst eh152
                      rw [show h148.1 117 (0 + cZ).toNat = uv from kn_nei eh148 (kn_nei eh144 uvK (by (first | decide +kernel | omega))) (by (first | decide +kernel | omega)), show h148.1 117 (64 + cZ).toNat = z102 from kn_put eh148] at p153
                      unfold bW at p153
                      refine N_callSI [.int z151] [] cs_Mod_196 d_Mod_bore_198 rfl (Nat.le_of_ble_eq_true rfl) (by decide) (by decide) (c_Mod_flag h148 z151 z151Z z151E) (fun z154 h155 z154Z z154E p156 => ?_)
                      obtain ⟨eh155, p156⟩ := p156
                      subst eh155
                      exact V_iret rfl d_Mod_bore_201 ⟨z154, rfl, ⟨hI149, f150, (by rw [lvK, pvK, bvK, uvK, xK, yK]; exact BE_of (by (first | decide +kernel | omega)) lvE oE z106E z106E hdp hm z105e z106e (Or.inr ⟨by unfold bW; omega, rfl⟩) (Or.inr ⟨by (first | decide +kernel | omega), (by rw [eh148, eh144] <;> rfl), by unfold bW; omega⟩))⟩⟩
                    ·
                      refine V_bipush (-2) d_Mod_bore_168 (by decide) ?_
                      exact V_iret rfl d_Mod_bore_170 ⟨(-2), rfl, ⟨hI, f0, (by rw [lvK, pvK, bvK, uvK, xK, yK]; exact BE_of (by (first | decide +kernel | omega)) lvE oE z106E z106E hdp hm z105e z106e (Or.inr ⟨by unfold bW; omega, rfl⟩) (Or.inl ⟨by (first | decide +kernel | omega), rfl, tc_m2⟩))⟩⟩
              ·
                exact absurd c137 (by decide)
            ·
              replace p135 := p135.resolve_right (fun q => by (first | decide +kernel | omega))
              refine V_iconst 1 d_Mod_bore_116 (by decide) ?_
              refine V_goto 121 d_Mod_bore_117 (by decide) ?_
              refine V_istore 7 [some (.ref 116), some (.int o), some (.int c), some (.int d), some (.int z99), some (.int z102), some (.int z106), some (.int 1), none] d_Mod_bore_121 (by decide) rfl rfl ?_
              refine V_iload d_Mod_bore_123 rfl ?_
              refine V_if_eq 138 tc_1 d_Mod_bore_125 (by decide) (fun c157 => ?_) (fun c157 => ?_)
              ·
                exact absurd c157 (by decide)
              ·
                refine V_iload d_Mod_bore_128 rfl ?_
                refine V_aload_n 0 d_Mod_bore_130 rfl rfl ?_
                refine N_getK fa_Mod_90 sk_116 rfl d_Mod_bore_131 yK ?_
                refine N_iaddw d_Mod_bore_134 (fun z158 z158Z z158E z158e => ?_)
                refine V_goto 140 d_Mod_bore_135 (by decide) ?_
                refine V_istore 8 [some (.ref 116), some (.int o), some (.int c), some (.int d), some (.int z99), some (.int z102), some (.int z106), some (.int 1), some (.int z158)] d_Mod_bore_140 (by decide) rfl rfl ?_
                refine V_aload_n 0 d_Mod_bore_142 rfl rfl ?_
                refine V_getR fa_Mod_7 sk_116 rfl d_Mod_bore_143 ?_
                refine V_bipush 48 d_Mod_bore_146 (by decide) ?_
                refine V_iload_n 2 d_Mod_bore_148 rfl rfl ?_
                refine V_iadd tc_48 cE (by (first | decide +kernel | omega)) d_Mod_bore_149 (fun z159 z159e z159E => ?_)
                refine N_ialdK sk_117 z159E (by (first | decide +kernel | omega)) d_Mod_bore_150 lvK ?_
                refine V_iload_n 1 d_Mod_bore_151 rfl rfl ?_
                refine V_icmp_ne 168 lvE oE d_Mod_bore_152 (by decide) (fun c161 => ?_) (fun c161 => ?_)
                ·
                  refine V_bipush (-2) d_Mod_bore_168 (by decide) ?_
                  exact V_iret rfl d_Mod_bore_170 ⟨(-2), rfl, ⟨hI, f0, (by rw [lvK, pvK, bvK, uvK, xK, yK]; exact BE_of (by (first | decide +kernel | omega)) lvE oE z106E z158E hdp hm z105e z106e (Or.inl ⟨by unfold bW; omega, z158e⟩) (Or.inl ⟨by (first | decide +kernel | omega), rfl, tc_m2⟩))⟩⟩
                ·
                  refine V_iload d_Mod_bore_155 rfl ?_
                  refine V_if_lt 168 z106E d_Mod_bore_157 (by decide) (fun c162 => ?_) (fun c162 => ?_)
                  ·
                    refine V_bipush (-2) d_Mod_bore_168 (by decide) ?_
                    exact V_iret rfl d_Mod_bore_170 ⟨(-2), rfl, ⟨hI, f0, (by rw [lvK, pvK, bvK, uvK, xK, yK]; exact BE_of (by (first | decide +kernel | omega)) lvE oE z106E z158E hdp hm z105e z106e (Or.inl ⟨by unfold bW; omega, z158e⟩) (Or.inl ⟨by (first | decide +kernel | omega), rfl, tc_m2⟩))⟩⟩
                  ·
                    refine V_iload d_Mod_bore_160 rfl ?_
                    refine V_sipush 999 d_Mod_bore_162 (by decide) ?_
                    refine V_icmp_le 171 z158E tc_999 d_Mod_bore_165 (by decide) (fun c163 => ?_) (fun c163 => ?_)
                    ·
                      refine V_aload_n 0 d_Mod_bore_171 rfl rfl ?_
                      refine V_getR fa_Mod_7 sk_116 rfl d_Mod_bore_172 ?_
                      refine V_bipush 80 d_Mod_bore_175 (by decide) ?_
                      refine V_iload_n 1 d_Mod_bore_177 rfl rfl ?_
                      refine V_iadd tc_80 oE (by (first | decide +kernel | omega)) d_Mod_bore_178 (fun z164 z164e z164E => ?_)
                      refine V_iload d_Mod_bore_179 rfl ?_
                      refine N_iast sk_117 z164E (by (first | decide +kernel | omega)) d_Mod_bore_181 (fun h165 eh165 => ?_)
                      have hI166 : Inv h165 := inv_full hI eh165 (st_lo (by (first | decide +kernel | omega)))
                      have f167 : fr S_Mod_boreX h h165 := fr_put f0 eh165 rfl
                      refine V_aload_n 0 d_Mod_bore_182 rfl rfl ?_
                      refine V_getR fa_Mod_7 sk_116 rfl d_Mod_bore_183 ?_
                      refine V_bipush 64 d_Mod_bore_186 (by decide) ?_
                      refine V_iload_n 2 d_Mod_bore_188 rfl rfl ?_
                      refine V_iadd tc_64 cE (by (first | decide +kernel | omega)) d_Mod_bore_189 (fun z168 z168e z168E => ?_)
                      refine V_iload d_Mod_bore_190 rfl ?_
                      refine N_iast sk_117 z168E (by (first | decide +kernel | omega)) d_Mod_bore_192 (fun h169 eh169 => ?_)
                      have hI170 : Inv h169 := inv_full hI166 eh169 (st_lo (by (first | decide +kernel | omega)))
                      have f171 : fr S_Mod_boreX h h169 := fr_put f167 eh169 rfl
                      refine V_aload_n 0 d_Mod_bore_193 rfl rfl ?_
                      refine V_iload_n 2 d_Mod_bore_194 rfl rfl ?_
                      refine N_callVI [.int c] [] cv_Mod_192 sk_116 rfl d_Mod_bore_195 rfl (Nat.le_of_ble_eq_true rfl) (by decide) (by decide) (c_Mod_isWellX h169 hI170 c cZ cE (by (first | decide +kernel | omega))) (fun z172 h173 z172Z z172E p174 => ?_)
                      obtain ⟨eh173, p174⟩ := p174
                      subst eh173
                      rw [show h169.1 117 (0 + cZ).toNat = uv from kn_nei eh169 (kn_nei eh165 uvK (by (first | decide +kernel | omega))) (by (first | decide +kernel | omega)), show h169.1 117 (64 + cZ).toNat = z102 from kn_put eh169] at p174
                      unfold bW at p174
                      refine N_callSI [.int z172] [] cs_Mod_196 d_Mod_bore_198 rfl (Nat.le_of_ble_eq_true rfl) (by decide) (by decide) (c_Mod_flag h169 z172 z172Z z172E) (fun z175 h176 z175Z z175E p177 => ?_)
                      obtain ⟨eh176, p177⟩ := p177
                      subst eh176
                      exact V_iret rfl d_Mod_bore_201 ⟨z175, rfl, ⟨hI170, f171, (by rw [lvK, pvK, bvK, uvK, xK, yK]; exact BE_of (by (first | decide +kernel | omega)) lvE oE z106E z158E hdp hm z105e z106e (Or.inl ⟨by unfold bW; omega, z158e⟩) (Or.inr ⟨by (first | decide +kernel | omega), (by rw [eh169, eh165] <;> rfl), by unfold bW; omega⟩))⟩⟩
                    ·
                      refine V_bipush (-2) d_Mod_bore_168 (by decide) ?_
                      exact V_iret rfl d_Mod_bore_170 ⟨(-2), rfl, ⟨hI, f0, (by rw [lvK, pvK, bvK, uvK, xK, yK]; exact BE_of (by (first | decide +kernel | omega)) lvE oE z106E z158E hdp hm z105e z106e (Or.inl ⟨by unfold bW; omega, z158e⟩) (Or.inl ⟨by (first | decide +kernel | omega), rfl, tc_m2⟩))⟩⟩
      ·
        replace p14 := p14.resolve_left (fun q => by (first | decide +kernel | omega))
        refine V_iconst (-1) d_Mod_bore_27 (by decide) ?_
        exact V_iret rfl d_Mod_bore_28 ⟨(-1), rfl, ⟨hI, f0, (Or.inl ⟨by (first | decide +kernel | omega), rfl, tc_m1⟩)⟩⟩
def S_Rod_wetX : List (Nat × Option Nat) := [(2, none)]
abbrev q_Rod_wetX (h : Hp) (c : Int32) (cZ : Int) (v : Int32) (vZ : Int) (w : Int32) (wZ : Int) (g : Int32) (gZ : Int) : Option Value → Hp → Prop := pInt (fun r h' => Inv h' ∧ fr S_Rod_wetX h h' ∧ (Ewt h h' 2 cZ.toNat (0 ≤ cZ ∧ cZ < wZ * gZ ∧ 0 ≤ vZ ∧ vZ ≤ 9) (0 < (h.1 6 cZ.toNat).toInt) v r))
set_option maxRecDepth 100000 in
theorem c_Rod_wetX (h : Hp) (hI : Inv h) (c : Int32) (cZ : Int) (cE : c.toInt = cZ) (v : Int32) (vZ : Int) (vE : v.toInt = vZ) (w : Int32) (wZ : Int) (wE : w.toInt = wZ) (wK : h.1 1 0 = w) (g : Int32) (gZ : Int) (gE : g.toInt = gZ) (gK : h.1 1 1 = g) : Ct y_Rod_wet b_Rod_wet 5 (some .int) 2 41 [.ref 85, .int c, .int v] h (q_Rod_wetX h c cZ v vZ w wZ g gZ) := by
  refine ct_ow R_Rod [some (.ref 85), some (.int c), some (.int v), none, none] rfl (by decide) rfl (Nat.le_of_ble_eq_true rfl) ?_
  have f0 : fr S_Rod_wetX h h := fr_rf
  have g1 : 2 ≤ wZ ∧ wZ ≤ 4 := inv_at hI wE wK.symm rfl
  have g2 : 2 ≤ gZ ∧ gZ ≤ 4 := inv_at hI gE gK.symm rfl
  obtain ⟨bv, bvZ, bvE, bvK⟩ : ∃ (y : Int32) (Y : Int), y.toInt = Y ∧ h.1 6 (cZ).toNat = y := ⟨_, _, rfl, rfl⟩
  refine V_aload_n 0 d_Rod_wet_0 rfl rfl ?_
  refine V_getR fa_Rod_12 sk_85 rfl d_Rod_wet_1 ?_
  refine V_getR fa_Rod_91 sk_0 rfl d_Rod_wet_4 ?_
  refine V_astore_n 3 [some (.ref 85), some (.int c), some (.int v), some (.ref 1), none] d_Rod_wet_7 rfl (by decide) rfl rfl ?_
  refine V_aload_n 3 d_Rod_wet_8 rfl rfl ?_
  refine V_iload_n 1 d_Rod_wet_9 rfl rfl ?_
  refine N_callVI [.int c] [] cv_Rod_124 sk_1 rfl d_Rod_wet_10 rfl (Nat.le_of_ble_eq_true rfl) (by decide) (by decide) (c_Land_hasX_0 h hI c cZ cE w wZ wE wK g gZ gE gK) (fun z3 h4 z3Z z3E p5 => ?_)
  obtain ⟨eh4, p5⟩ := p5
  subst eh4
  refine V_if_eq 26 z3E d_Rod_wet_13 (by decide) (fun c6 => ?_) (fun c6 => ?_)
  ·
    replace p5 := p5.resolve_left (fun q => by (first | decide +kernel | omega))
    refine V_iconst (-1) d_Rod_wet_26 (by decide) ?_
    exact V_iret rfl d_Rod_wet_27 ⟨(-1), rfl, ⟨hI, f0, (Or.inr (Or.inr ⟨by (first | decide +kernel | omega), rfl, tc_m1⟩))⟩⟩
  ·
    replace p5 := p5.resolve_right (fun q => by (first | decide +kernel | omega))
    refine V_iload_n 2 d_Rod_wet_16 rfl rfl ?_
    refine V_if_lt 26 vE d_Rod_wet_17 (by decide) (fun c7 => ?_) (fun c7 => ?_)
    ·
      refine V_iconst (-1) d_Rod_wet_26 (by decide) ?_
      exact V_iret rfl d_Rod_wet_27 ⟨(-1), rfl, ⟨hI, f0, (Or.inr (Or.inr ⟨by (first | decide +kernel | omega), rfl, tc_m1⟩))⟩⟩
    ·
      refine V_iload_n 2 d_Rod_wet_20 rfl rfl ?_
      refine V_bipush 9 d_Rod_wet_21 (by decide) ?_
      refine V_icmp_le 28 vE tc_9 d_Rod_wet_23 (by decide) (fun c8 => ?_) (fun c8 => ?_)
      ·
        refine V_aload_n 3 d_Rod_wet_28 rfl rfl ?_
        refine V_getR fa_Rod_141 sk_1 rfl d_Rod_wet_29 ?_
        refine V_iload_n 1 d_Rod_wet_32 rfl rfl ?_
        refine N_ialdK sk_6 cE (by (first | decide +kernel | omega)) d_Rod_wet_33 bvK ?_
        refine V_if_le 40 bvE d_Rod_wet_34 (by decide) (fun c10 => ?_) (fun c10 => ?_)
        ·
          refine V_aload_n 3 d_Rod_wet_40 rfl rfl ?_
          refine V_getR fa_Rod_128 sk_1 rfl d_Rod_wet_41 ?_
          refine V_iload_n 1 d_Rod_wet_44 rfl rfl ?_
          refine N_iald sk_2 cE (by (first | decide +kernel | omega)) d_Rod_wet_45 (fun z11 z11Z z11E z11e => ?_)
          refine V_istore 4 [some (.ref 85), some (.int c), some (.int v), some (.ref 1), some (.int z11)] d_Rod_wet_46 (by decide) rfl rfl ?_
          refine V_aload_n 3 d_Rod_wet_48 rfl rfl ?_
          refine V_getR fa_Rod_128 sk_1 rfl d_Rod_wet_49 ?_
          refine V_iload_n 1 d_Rod_wet_52 rfl rfl ?_
          refine V_iload_n 2 d_Rod_wet_53 rfl rfl ?_
          refine N_iast sk_2 cE (by (first | decide +kernel | omega)) d_Rod_wet_54 (fun h12 eh12 => ?_)
          have hI13 : Inv h12 := inv_full hI eh12 rfl
          have f14 : fr S_Rod_wetX h h12 := fr_put f0 eh12 rfl
          refine V_iload d_Rod_wet_55 rfl ?_
          exact V_iret rfl d_Rod_wet_57 ⟨z11, rfl, ⟨hI13, f14, (Or.inl ⟨by (first | decide +kernel | omega), by rw [bvK]; omega, (by rw [eh12] <;> rfl), z11e⟩)⟩⟩
        ·
          refine V_bipush (-2) d_Rod_wet_37 (by decide) ?_
          exact V_iret rfl d_Rod_wet_39 ⟨(-2), rfl, ⟨hI, f0, (Or.inr (Or.inl ⟨by (first | decide +kernel | omega), by rw [bvK]; omega, rfl, tc_m2⟩))⟩⟩
      ·
        refine V_iconst (-1) d_Rod_wet_26 (by decide) ?_
        exact V_iret rfl d_Rod_wet_27 ⟨(-1), rfl, ⟨hI, f0, (Or.inr (Or.inr ⟨by (first | decide +kernel | omega), rfl, tc_m1⟩))⟩⟩
def S_Mod_wetX : List (Nat × Option Nat) := [(117, none)]
abbrev q_Mod_wetX (h : Hp) (c : Int32) (cZ : Int) (v : Int32) (vZ : Int) (w : Int32) (wZ : Int) (g : Int32) (gZ : Int) : Option Value → Hp → Prop := pInt (fun r h' => Inv h' ∧ fr S_Mod_wetX h h' ∧ (Ewt h h' 117 (0 + cZ).toNat (0 ≤ cZ ∧ cZ < wZ * gZ ∧ 0 ≤ vZ ∧ vZ ≤ 9) (0 < (h.1 117 (64 + cZ).toNat).toInt) v r))
set_option maxRecDepth 100000 in
theorem c_Mod_wetX (h : Hp) (hI : Inv h) (c : Int32) (cZ : Int) (cE : c.toInt = cZ) (v : Int32) (vZ : Int) (vE : v.toInt = vZ) (w : Int32) (wZ : Int) (wE : w.toInt = wZ) (wK : h.1 116 2 = w) (g : Int32) (gZ : Int) (gE : g.toInt = gZ) (gK : h.1 116 3 = g) : Ct y_Mod_wet b_Mod_wet 3 (some .int) 2 46 [.ref 116, .int c, .int v] h (q_Mod_wetX h c cZ v vZ w wZ g gZ) := by
  refine ct_ow R_Mod [some (.ref 116), some (.int c), some (.int v)] rfl (by decide) rfl (Nat.le_of_ble_eq_true rfl) ?_
  have f0 : fr S_Mod_wetX h h := fr_rf
  have g1 : 2 ≤ wZ ∧ wZ ≤ 4 := inv_at hI wE wK.symm rfl
  have g2 : 2 ≤ gZ ∧ gZ ≤ 4 := inv_at hI gE gK.symm rfl
  obtain ⟨bv, bvZ, bvE, bvK⟩ : ∃ (y : Int32) (Y : Int), y.toInt = Y ∧ h.1 117 ((64 + cZ)).toNat = y := ⟨_, _, rfl, rfl⟩
  refine V_aload_n 0 d_Mod_wet_0 rfl rfl ?_
  refine V_iload_n 1 d_Mod_wet_1 rfl rfl ?_
  refine N_callVI [.int c] [] cv_Mod_200 sk_116 rfl d_Mod_wet_2 rfl (Nat.le_of_ble_eq_true rfl) (by decide) (by decide) (c_Mod_isCellX h hI c cZ cE w wZ wE wK g gZ gE gK) (fun z3 h4 z3Z z3E p5 => ?_)
  obtain ⟨eh4, p5⟩ := p5
  subst eh4
  refine V_if_eq 20 z3E d_Mod_wet_5 (by decide) (fun c6 => ?_) (fun c6 => ?_)
  ·
    replace p5 := p5.resolve_left (fun q => by (first | decide +kernel | omega))
    refine V_iconst (-1) d_Mod_wet_20 (by decide) ?_
    exact V_iret rfl d_Mod_wet_21 ⟨(-1), rfl, ⟨hI, f0, (Or.inr (Or.inr ⟨by (first | decide +kernel | omega), rfl, tc_m1⟩))⟩⟩
  ·
    replace p5 := p5.resolve_right (fun q => by (first | decide +kernel | omega))
    refine V_iload_n 2 d_Mod_wet_8 rfl rfl ?_
    refine V_i2l d_Mod_wet_9 (fun z7 z7e z7E => ?_)
    have z7F : z7.toInt = vZ := z7E.trans vE
    refine V_lconst 0 d_Mod_wet_10 (by decide) ?_
    refine V_ldc2 d_Mod_wet_11 wl_Mod_208 ?_
    refine N_callSI [.long z7, .long 0, .long 9] [] cs_Mod_95 d_Mod_wet_14 rfl (Nat.le_of_ble_eq_true rfl) (by decide) (by decide) (c_Mod_in h z7 vZ z7F 0 0 tl_0 9 9 tl_9) (fun z8 h9 z8Z z8E p10 => ?_)
    obtain ⟨eh9, p10⟩ := p10
    subst eh9
    refine V_if_ne 22 z8E d_Mod_wet_17 (by decide) (fun c11 => ?_) (fun c11 => ?_)
    ·
      replace p10 := p10.resolve_right (fun q => by (first | decide +kernel | omega))
      refine V_aload_n 0 d_Mod_wet_22 rfl rfl ?_
      refine V_getR fa_Mod_7 sk_116 rfl d_Mod_wet_23 ?_
      refine V_bipush 64 d_Mod_wet_26 (by decide) ?_
      refine V_iload_n 1 d_Mod_wet_28 rfl rfl ?_
      refine V_iadd tc_64 cE (by (first | decide +kernel | omega)) d_Mod_wet_29 (fun z12 z12e z12E => ?_)
      refine N_ialdK sk_117 z12E (by (first | decide +kernel | omega)) d_Mod_wet_30 bvK ?_
      refine V_if_le 39 bvE d_Mod_wet_31 (by decide) (fun c14 => ?_) (fun c14 => ?_)
      ·
        refine V_aload_n 0 d_Mod_wet_39 rfl rfl ?_
        refine V_iconst 0 d_Mod_wet_40 (by decide) ?_
        refine V_iload_n 1 d_Mod_wet_41 rfl rfl ?_
        refine V_iadd tc_0 cE (by (first | decide +kernel | omega)) d_Mod_wet_42 (fun z15 z15e z15E => ?_)
        refine V_iload_n 2 d_Mod_wet_43 rfl rfl ?_
        refine N_callVI [.int z15, .int v] [] cv_Mod_210 sk_116 rfl d_Mod_wet_44 rfl (Nat.le_of_ble_eq_true rfl) (by decide) (by decide) (c_Mod_becomesX h hI z15 ((0 + cZ)) z15E v vZ vE (by (first | decide +kernel | omega)) (stOk_lo vE (by (first | decide +kernel | omega)))) (fun z16 h17 z16Z z16E p18 => ?_)
        obtain ⟨hI19, fh17, p18⟩ := p18
        have f20 : fr S_Mod_wetX h h17 := fr_call f0 fh17 rfl
        exact V_iret rfl d_Mod_wet_47 ⟨z16, rfl, ⟨hI19, f20, (Or.inl ⟨by (first | decide +kernel | omega), by rw [bvK]; omega, p18.1, p18.2⟩)⟩⟩
      ·
        refine V_bipush (-2) d_Mod_wet_34 (by decide) ?_
        refine V_goto 47 d_Mod_wet_36 (by decide) ?_
        exact V_iret rfl d_Mod_wet_47 ⟨(-2), rfl, ⟨hI, f0, (Or.inr (Or.inl ⟨by (first | decide +kernel | omega), by rw [bvK]; omega, rfl, tc_m2⟩))⟩⟩
    ·
      replace p10 := p10.resolve_left (fun q => by (first | decide +kernel | omega))
      refine V_iconst (-1) d_Mod_wet_20 (by decide) ?_
      exact V_iret rfl d_Mod_wet_21 ⟨(-1), rfl, ⟨hI, f0, (Or.inr (Or.inr ⟨by (first | decide +kernel | omega), rfl, tc_m1⟩))⟩⟩
def S_Rod_fundX : List (Nat × Option Nat) := [(8, none)]
abbrev q_Rod_fundX (h : Hp) (o : Int32) (oZ : Int) (v : Int32) (vZ : Int) : Option Value → Hp → Prop := pInt (fun r h' => Inv h' ∧ fr S_Rod_fundX h h' ∧ (Er h h' 8 oZ.toNat (0 ≤ oZ ∧ oZ ≤ 3 ∧ 0 ≤ vZ ∧ vZ ≤ 999) (fun x => x = v) r))
set_option maxRecDepth 100000 in
theorem c_Rod_fundX (h : Hp) (hI : Inv h) (o : Int32) (oZ : Int) (oE : o.toInt = oZ) (v : Int32) (vZ : Int) (vE : v.toInt = vZ) : Ct y_Rod_fund b_Rod_fund 4 (some .int) 1 20 [.ref 85, .int o, .int v] h (q_Rod_fundX h o oZ v vZ) := by
  refine ct_ow R_Rod [some (.ref 85), some (.int o), some (.int v), none] rfl (by decide) rfl (Nat.le_of_ble_eq_true rfl) ?_
  have f0 : fr S_Rod_fundX h h := fr_rf
  refine V_iload_n 1 d_Rod_fund_0 rfl rfl ?_
  refine N_callSI [.int o] [] cs_Rod_151 d_Rod_fund_1 rfl (Nat.le_of_ble_eq_true rfl) (by decide) (by decide) (c_Rod_isOwner h o oZ oE) (fun z1 h2 z1Z z1E p3 => ?_)
  obtain ⟨eh2, p3⟩ := p3
  subst eh2
  refine V_if_eq 18 z1E d_Rod_fund_4 (by decide) (fun c4 => ?_) (fun c4 => ?_)
  ·
    replace p3 := p3.resolve_left (fun q => by (first | decide +kernel | omega))
    refine V_iconst (-1) d_Rod_fund_18 (by decide) ?_
    exact V_iret rfl d_Rod_fund_19 ⟨(-1), rfl, ⟨hI, f0, (Or.inr ⟨by (first | decide +kernel | omega), rfl, tc_m1⟩)⟩⟩
  ·
    replace p3 := p3.resolve_right (fun q => by (first | decide +kernel | omega))
    refine V_iload_n 2 d_Rod_fund_7 rfl rfl ?_
    refine V_if_lt 18 vE d_Rod_fund_8 (by decide) (fun c5 => ?_) (fun c5 => ?_)
    ·
      refine V_iconst (-1) d_Rod_fund_18 (by decide) ?_
      exact V_iret rfl d_Rod_fund_19 ⟨(-1), rfl, ⟨hI, f0, (Or.inr ⟨by (first | decide +kernel | omega), rfl, tc_m1⟩)⟩⟩
    ·
      refine V_iload_n 2 d_Rod_fund_11 rfl rfl ?_
      refine V_sipush 999 d_Rod_fund_12 (by decide) ?_
      refine V_icmp_le 20 vE tc_999 d_Rod_fund_15 (by decide) (fun c6 => ?_) (fun c6 => ?_)
      ·
        refine V_aload_n 0 d_Rod_fund_20 rfl rfl ?_
        refine V_getR fa_Rod_12 sk_85 rfl d_Rod_fund_21 ?_
        refine V_getR fa_Rod_115 sk_0 rfl d_Rod_fund_24 ?_
        refine V_getR fa_Rod_154 sk_7 rfl d_Rod_fund_27 ?_
        refine V_iload_n 1 d_Rod_fund_30 rfl rfl ?_
        refine N_iald sk_8 oE (by (first | decide +kernel | omega)) d_Rod_fund_31 (fun z7 z7Z z7E z7e => ?_)
        refine V_istore_n 3 [some (.ref 85), some (.int o), some (.int v), some (.int z7)] d_Rod_fund_32 rfl (by decide) rfl rfl ?_
        refine V_aload_n 0 d_Rod_fund_33 rfl rfl ?_
        refine V_getR fa_Rod_12 sk_85 rfl d_Rod_fund_34 ?_
        refine V_getR fa_Rod_115 sk_0 rfl d_Rod_fund_37 ?_
        refine V_getR fa_Rod_154 sk_7 rfl d_Rod_fund_40 ?_
        refine V_iload_n 1 d_Rod_fund_43 rfl rfl ?_
        refine V_iload_n 2 d_Rod_fund_44 rfl rfl ?_
        refine N_iast sk_8 oE (by (first | decide +kernel | omega)) d_Rod_fund_45 (fun h8 eh8 => ?_)
        have hI9 : Inv h8 := inv_full hI eh8 rfl
        have f10 : fr S_Rod_fundX h h8 := fr_put f0 eh8 rfl
        refine V_iload_n 3 d_Rod_fund_46 rfl rfl ?_
        exact V_iret rfl d_Rod_fund_47 ⟨z7, rfl, ⟨hI9, f10, (Or.inl ⟨by (first | decide +kernel | omega), v, rfl, (by rw [eh8] <;> rfl), z7e⟩)⟩⟩
      ·
        refine V_iconst (-1) d_Rod_fund_18 (by decide) ?_
        exact V_iret rfl d_Rod_fund_19 ⟨(-1), rfl, ⟨hI, f0, (Or.inr ⟨by (first | decide +kernel | omega), rfl, tc_m1⟩)⟩⟩
def S_Mod_fundX : List (Nat × Option Nat) := [(117, none)]
abbrev q_Mod_fundX (h : Hp) (o : Int32) (oZ : Int) (v : Int32) (vZ : Int) : Option Value → Hp → Prop := pInt (fun r h' => Inv h' ∧ fr S_Mod_fundX h h' ∧ (Er h h' 117 (80 + oZ).toNat (0 ≤ oZ ∧ oZ ≤ 3 ∧ 0 ≤ vZ ∧ vZ ≤ 999) (fun x => x = v) r))
set_option maxRecDepth 100000 in
theorem c_Mod_fundX (h : Hp) (hI : Inv h) (o : Int32) (oZ : Int) (oE : o.toInt = oZ) (v : Int32) (vZ : Int) (vE : v.toInt = vZ) : Ct y_Mod_fund b_Mod_fund 3 (some .int) 2 45 [.ref 116, .int o, .int v] h (q_Mod_fundX h o oZ v vZ) := by
  refine ct_ow R_Mod [some (.ref 116), some (.int o), some (.int v)] rfl (by decide) rfl (Nat.le_of_ble_eq_true rfl) ?_
  have f0 : fr S_Mod_fundX h h := fr_rf
  refine V_iload_n 1 d_Mod_fund_0 rfl rfl ?_
  refine N_callSI [.int o] [] cs_Mod_205 d_Mod_fund_1 rfl (Nat.le_of_ble_eq_true rfl) (by decide) (by decide) (c_Mod_isOwner h o oZ oE) (fun z1 h2 z1Z z1E p3 => ?_)
  obtain ⟨eh2, p3⟩ := p3
  subst eh2
  refine V_if_eq 31 z1E d_Mod_fund_4 (by decide) (fun c4 => ?_) (fun c4 => ?_)
  ·
    replace p3 := p3.resolve_left (fun q => by (first | decide +kernel | omega))
    refine V_iconst (-1) d_Mod_fund_31 (by decide) ?_
    exact V_iret rfl d_Mod_fund_32 ⟨(-1), rfl, ⟨hI, f0, (Or.inr ⟨by (first | decide +kernel | omega), rfl, tc_m1⟩)⟩⟩
  ·
    replace p3 := p3.resolve_right (fun q => by (first | decide +kernel | omega))
    refine V_iload_n 2 d_Mod_fund_7 rfl rfl ?_
    refine V_i2l d_Mod_fund_8 (fun z5 z5e z5E => ?_)
    have z5F : z5.toInt = vZ := z5E.trans vE
    refine V_lconst 0 d_Mod_fund_9 (by decide) ?_
    refine V_ldc2 d_Mod_fund_10 wl_Mod_215 ?_
    refine N_callSI [.long z5, .long 0, .long 999] [] cs_Mod_95 d_Mod_fund_13 rfl (Nat.le_of_ble_eq_true rfl) (by decide) (by decide) (c_Mod_in h z5 vZ z5F 0 0 tl_0 999 999 tl_999) (fun z6 h7 z6Z z6E p8 => ?_)
    obtain ⟨eh7, p8⟩ := p8
    subst eh7
    refine V_if_eq 31 z6E d_Mod_fund_16 (by decide) (fun c9 => ?_) (fun c9 => ?_)
    ·
      replace p8 := p8.resolve_left (fun q => by (first | decide +kernel | omega))
      refine V_iconst (-1) d_Mod_fund_31 (by decide) ?_
      exact V_iret rfl d_Mod_fund_32 ⟨(-1), rfl, ⟨hI, f0, (Or.inr ⟨by (first | decide +kernel | omega), rfl, tc_m1⟩)⟩⟩
    ·
      replace p8 := p8.resolve_right (fun q => by (first | decide +kernel | omega))
      refine V_aload_n 0 d_Mod_fund_19 rfl rfl ?_
      refine V_bipush 80 d_Mod_fund_20 (by decide) ?_
      refine V_iload_n 1 d_Mod_fund_22 rfl rfl ?_
      refine V_iadd tc_80 oE (by (first | decide +kernel | omega)) d_Mod_fund_23 (fun z10 z10e z10E => ?_)
      refine V_iload_n 2 d_Mod_fund_24 rfl rfl ?_
      refine N_callVI [.int z10, .int v] [] cv_Mod_210 sk_116 rfl d_Mod_fund_25 rfl (Nat.le_of_ble_eq_true rfl) (by decide) (by decide) (c_Mod_becomesX h hI z10 ((80 + oZ)) z10E v vZ vE (by (first | decide +kernel | omega)) (stOk_lo vE (by (first | decide +kernel | omega)))) (fun z11 h12 z11Z z11E p13 => ?_)
      obtain ⟨hI14, fh12, p13⟩ := p13
      have f15 : fr S_Mod_fundX h h12 := fr_call f0 fh12 rfl
      refine V_goto 32 d_Mod_fund_28 (by decide) ?_
      exact V_iret rfl d_Mod_fund_32 ⟨z11, rfl, ⟨hI14, f15, (Or.inl ⟨by (first | decide +kernel | omega), v, rfl, p13.1, p13.2⟩)⟩⟩
end
section
def rn1 (w v : Int32) : Int32 := if 0 < w.toInt then (if (w - v).toInt < 1 then 1 else w - v) else w
/-- the class's water behind rain over the first n CELLS -/
def rW (h h' : Hp) (k : Nat) (v : Int32) (n : Int) : Prop := ∀ i : Nat, i < 16 → h'.1 k i = if (i : Int) < n then rn1 (h.1 k i) v else h.1 k i
theorem rW_0 {h : Hp} {k : Nat} {v : Int32} : rW h h k v 0 := fun i _ => by rw [if_neg (by (first | decide +kernel | omega))]
theorem rW_s1 {h h1 h2 : Hp} {k : Nat} {v y z : Int32} {n : Int} (r : rW h h1 k v n) (hn : 0 ≤ n ∧ n < 16) (hy : y = h1.1 k n.toNat) (hz : z = rn1 y v) (e : h2 = pI h1 k n.toNat z) : rW h h2 k v (n + 1) := fun i hi => by
  rw [e, pI_at]
  have g := r n.toNat (by (first | decide +kernel | omega))
  rw [if_neg (by (first | decide +kernel | omega))] at g
  by_cases q : i = n.toNat
  · subst q
    rw [if_pos ⟨rfl, rfl⟩, if_pos (by (first | decide +kernel | omega)), hz, hy, g]
  · rw [if_neg (fun c => q c.2), r i hi]
    by_cases w : (i : Int) < n
    · rw [if_pos w, if_pos (by (first | decide +kernel | omega))]
    · rw [if_neg w, if_neg (by (first | decide +kernel | omega))]
theorem rW_s0 {h h1 : Hp} {k : Nat} {v y : Int32} {n Y : Int} (r : rW h h1 k v n) (hn : 0 ≤ n ∧ n < 16) (hy : y = h1.1 k n.toNat) (yE : y.toInt = Y) (h0 : Y ≤ 0) : rW h h1 k v (n + 1) := fun i hi => by
  have g := r n.toNat (by (first | decide +kernel | omega))
  rw [if_neg (by (first | decide +kernel | omega))] at g
  by_cases q : i = n.toNat
  · subst q
    rw [if_pos (by (first | decide +kernel | omega)), g]
    unfold rn1
    rw [← g, ← hy, yE, if_neg (by (first | decide +kernel | omega))]
  · rw [r i hi]
    by_cases w : (i : Int) < n
    · rw [if_pos w, if_pos (by (first | decide +kernel | omega))]
    · rw [if_neg w, if_neg (by (first | decide +kernel | omega))]
theorem rn1_max {y v s z : Int32} {Y S Z : Int} (yE : y.toInt = Y) (hy : 0 < Y) (e : s = y - v) (sE : s.toInt = S) (zE : z.toInt = Z) (g : 1 < S ∧ Z = S ∨ S ≤ 1 ∧ Z = 1) : z = rn1 y v := by
  unfold rn1
  rw [yE, if_pos hy, ← e, sE]
  rcases g with ⟨g1, g2⟩ | ⟨g1, g2⟩
  · rw [if_neg (by (first | decide +kernel | omega))]; exact same_of (zE.trans g2) sE
  · by_cases q : S < 1
    · rw [if_pos q]; exact same_of (zE.trans g2) rfl
    · rw [if_neg q]; exact same_of (zE.trans g2) (sE.trans (by (first | decide +kernel | omega)))
theorem rn1_m0 {y v : Int32} (h : y.toInt = 0) : (0 : Int32) = rn1 y v := by
  unfold rn1
  rw [h, if_neg (by (first | decide +kernel | omega))]
  exact same_of rfl h
theorem rn1_m1 {y v s : Int32} {Y S : Int} (yE : y.toInt = Y) (hy : 0 < Y) (e : s = y - v) (sE : s.toInt = S) (hs : S < 1) : (1 : Int32) = rn1 y v := by
  unfold rn1
  rw [yE, if_pos hy, ← e, sE, if_pos hs]
theorem rn1_m2 {y v s t : Int32} {Y S : Int} (yE : y.toInt = Y) (hy : 0 < Y) (e : s = y - v) (e2 : t = y - v) (sE : s.toInt = S) (hs : 1 ≤ S) : t = rn1 y v := by
  unfold rn1
  rw [yE, if_pos hy, ← e, sE, if_neg (by (first | decide +kernel | omega)), e2, e]
theorem rn1_nn {w v : Int32} (h : 0 ≤ w.toInt) : 0 ≤ (rn1 w v).toInt := by
  unfold rn1
  split
  · split
    · decide
    · next q => omega
  · exact h
/-- the bits of the WELLS of the first n CELLS -/
def wb (w b : Nat → Int32) : Nat → Nat
  | 0 => 0
  | n + 1 => wb w b n + (if 0 < (w n).toInt ∧ (w n).toInt ≤ (b n).toInt then 2 ^ n else 0)
def pcN : Nat → Nat → Nat
  | 0, _ => 0
  | k + 1, n => n % 2 + pcN k (n / 2)
theorem rM_nn {h h1 : Hp} {v y : Int32} {n Y : Int} (hw : ∀ i : Nat, i < 16 → 0 ≤ (h.1 117 i).toInt) (r : rW h h1 117 v n) (hn : 0 ≤ n ∧ n < 16) (hy : y = h1.1 117 (0 + n).toNat) (yE : y.toInt = Y) : 0 ≤ Y := by
  rw [Int.zero_add] at hy
  have g := r n.toNat (by (first | decide +kernel | omega))
  rw [if_neg (by (first | decide +kernel | omega))] at g
  rw [← yE, hy, g]
  exact hw _ (by (first | decide +kernel | omega))
end
section
def S_Land_raiseWaterX_0 : List (Nat × Option Nat) := [(2, none)]
abbrev q_Land_raiseWaterX_0 (h : Hp) (v : Int32) (vZ : Int) (w : Int32) (wZ : Int) (g : Int32) (gZ : Int) : Option Value → Hp → Prop := pVd (fun h' => Inv h' ∧ fr S_Land_raiseWaterX_0 h h' ∧ (rW h h' 2 v (wZ * gZ)))
set_option maxRecDepth 100000 in
theorem c_Land_raiseWaterX_0 (h : Hp) (hI : Inv h) (v : Int32) (vZ : Int) (vE : v.toInt = vZ) (w : Int32) (wZ : Int) (wE : w.toInt = wZ) (wK : h.1 1 0 = w) (g : Int32) (gZ : Int) (gE : g.toInt = gZ) (gK : h.1 1 1 = g) : Ct y_Land_raiseWater b_Land_raiseWater 3 none 1 21 [.ref 1, .int v] h (q_Land_raiseWaterX_0 h v vZ w wZ g gZ) := by
  refine ct_ow R_Land [some (.ref 1), some (.int v), none] rfl (by decide) rfl (Nat.le_of_ble_eq_true rfl) ?_
  have f0 : fr S_Land_raiseWaterX_0 h h := fr_rf
  have g1 : 2 ≤ wZ ∧ wZ ≤ 4 := inv_at hI wE wK.symm rfl
  have g2 : 2 ≤ gZ ∧ gZ ≤ 4 := inv_at hI gE gK.symm rfl
  have m24 := mul24 (A := wZ) (B := gZ) (by (first | decide +kernel | omega)) (by (first | decide +kernel | omega))
  refine V_iconst 0 d_Land_raiseWater_0 (by decide) ?_
  refine V_istore_n 2 [some (.ref 1), some (.int v), some (.int 0)] d_Land_raiseWater_1 rfl (by decide) rfl rfl ?_
  have L3 : ∀ (nn : Nat) (v5 : Int32) (v5Z : Int) (h6 : Hp), v5.toInt = v5Z → Inv h6 → fr S_Land_raiseWaterX_0 h h6 → h6.1 1 0 = w → h6.1 1 1 = g → 0 ≤ v5Z ∧ v5Z ≤ wZ * gZ → rW h h6 2 v v5Z → 16 - v5Z < (nn : Int) → V R_Land b_Land_raiseWater 3 none 1 21 (q_Land_raiseWaterX_0 h v vZ w wZ g gZ) h6 2 [some (.ref 1), some (.int v), some (.int v5)] [] := by
    intro nn
    induction nn with
    | zero => intro v5 v5Z h6 v5E Ih6 Fh6 K7 K8 q9 q10 hm11; exact absurd hm11 (by (first | decide +kernel | omega))
    | succ nn ihL3 =>
      intro v5 v5Z h6 v5E Ih6 Fh6 K7 K8 q9 q10 hm11
      refine V_iload_n 2 d_Land_raiseWater_2 rfl rfl ?_
      refine V_aload_n 0 d_Land_raiseWater_3 rfl rfl ?_
      refine N_callVI [] [.int v5] cv_Land_52 sk_1 rfl d_Land_raiseWater_4 rfl (Nat.le_of_ble_eq_true rfl) (by decide) (by decide) (c_Land_cells_0 h6 Ih6 w wZ wE K7 g gZ gE K8) (fun z12 h13 z12Z z12E p14 => ?_)
      obtain ⟨eh13, p14⟩ := p14
      subst eh13
      refine V_icmp_ge 43 v5E z12E d_Land_raiseWater_7 (by decide) (fun c15 => ?_) (fun c15 => ?_)
      ·
        exact V_vret rfl d_Land_raiseWater_43 ⟨rfl, ⟨Ih6, Fh6, (by rw [show wZ * gZ = v5Z by (first | decide +kernel | omega)]; assumption)⟩⟩
      ·
        refine V_aload_n 0 d_Land_raiseWater_10 rfl rfl ?_
        refine V_getR fa_Land_9 sk_1 rfl d_Land_raiseWater_11 ?_
        refine V_iload_n 2 d_Land_raiseWater_14 rfl rfl ?_
        refine N_iald sk_2 v5E (by (first | decide +kernel | omega)) d_Land_raiseWater_15 (fun z16 z16Z z16E z16e => ?_)
        refine V_if_le 37 z16E d_Land_raiseWater_16 (by decide) (fun c17 => ?_) (fun c17 => ?_)
        ·
          obtain ⟨z18, z18E, z18e⟩ : ∃ y : Int32, y.toInt = v5Z + 1 ∧ y = v5 + Int32.ofInt 1 := ⟨_, ti_add v5E (by decide) (by (first | decide +kernel | omega)), rfl⟩
          refine V_iinc 2 [some (.ref 1), some (.int v), some (.int z18)] d_Land_raiseWater_37 rfl z18e.symm (by decide) rfl rfl ?_
          refine V_goto 2 d_Land_raiseWater_40 (by decide) ?_
          exact ihL3 z18 ((v5Z + 1)) h6 z18E Ih6 Fh6 K7 K8 (by (first | decide +kernel | omega)) (rW_s0 (by assumption) (by (first | decide +kernel | omega)) z16e z16E (by (first | decide +kernel | omega))) (by (first | decide +kernel | omega))
        ·
          refine V_aload_n 0 d_Land_raiseWater_19 rfl rfl ?_
          refine V_getR fa_Land_9 sk_1 rfl d_Land_raiseWater_20 ?_
          refine V_iload_n 2 d_Land_raiseWater_23 rfl rfl ?_
          refine V_iconst 1 d_Land_raiseWater_24 (by decide) ?_
          refine V_aload_n 0 d_Land_raiseWater_25 rfl rfl ?_
          refine V_getR fa_Land_9 sk_1 rfl d_Land_raiseWater_26 ?_
          refine V_iload_n 2 d_Land_raiseWater_29 rfl rfl ?_
          refine N_iald sk_2 v5E (by (first | decide +kernel | omega)) d_Land_raiseWater_30 (fun z19 z19Z z19E z19e => ?_)
          have g20 : z16Z = z19Z := by rw [← z16E, ← z19E, z16e, z19e]
          refine V_iload_n 1 d_Land_raiseWater_31 rfl rfl ?_
          refine N_isubw d_Land_raiseWater_32 (fun z21 z21Z z21E z21e => ?_)
          refine N_max tc_1 z21E wm_Land_69 d_Land_raiseWater_33 (Nat.le_of_ble_eq_true rfl) (by decide) wmax1 wM2 wmax3 (fun z22 z22Z z22E z22e z22g => ?_)
          refine N_iast sk_2 v5E (by (first | decide +kernel | omega)) d_Land_raiseWater_36 (fun h23 eh23 => ?_)
          have hI24 : Inv h23 := inv_full Ih6 eh23 rfl
          have f25 : fr S_Land_raiseWaterX_0 h h23 := fr_put Fh6 eh23 rfl
          obtain ⟨z26, z26E, z26e⟩ : ∃ y : Int32, y.toInt = v5Z + 1 ∧ y = v5 + Int32.ofInt 1 := ⟨_, ti_add v5E (by decide) (by (first | decide +kernel | omega)), rfl⟩
          refine V_iinc 2 [some (.ref 1), some (.int v), some (.int z26)] d_Land_raiseWater_37 rfl z26e.symm (by decide) rfl rfl ?_
          refine V_goto 2 d_Land_raiseWater_40 (by decide) ?_
          exact ihL3 z26 ((v5Z + 1)) h23 z26E hI24 f25 (kn_ne eh23 K7 (by decide)) (kn_ne eh23 K8 (by decide)) (by (first | decide +kernel | omega)) (rW_s1 (by assumption) (by (first | decide +kernel | omega)) z19e (rn1_max z19E (by (first | decide +kernel | omega)) z21e z21E z22E z22g) eh23) (by (first | decide +kernel | omega))
  exact L3 (Int.toNat ((16 - 0 : Int) + 1)) 0 0 h tc_0 hI f0 wK gK (by (first | decide +kernel | omega)) rW_0 (by (first | decide +kernel | omega))
end
section
theorem JB_put {h h1 h2 : Hp} {k i d : Nat} {x : Int32} (r : JB h) (hk : k = 2 ∧ i < 16 ∧ d = i ∧ 0 ≤ x.toInt ∨ k = 6 ∧ i < 16 ∧ d = 64 + i ∨ k = 8 ∧ i < 4 ∧ d = 80 + i) (e1 : h1 = pI h k i x) (e2 : h2 = pI h1 117 d x) : JB h2 := by
  have cell : ∀ k' i' : Nat, ¬ (k' = k ∧ i' = i) → ¬ (k' = 117 ∧ i' = d) → h2.1 k' i' = h.1 k' i' := fun k' i' a c => by rw [e2, pI_at, if_neg c, e1, pI_at, if_neg a]
  have ck : k ≠ 117 := by (first | decide +kernel | omega)
  have v1 : h2.1 k i = x := by rw [e2, pI_at, if_neg (by (first | decide +kernel | omega)), e1, pI_at, if_pos ⟨rfl, rfl⟩]
  have v2 : h2.1 117 d = x := by rw [e2, pI_at, if_pos ⟨rfl, rfl⟩]
  obtain ⟨r1, r2, r3⟩ := r.1
  refine JB_rest r ⟨fun j hj => ?_, fun j hj => ?_, fun j hj => ?_⟩ (fun k' i' w => cell k' i' (by (first | decide +kernel | omega)) (by (first | decide +kernel | omega)))
  · rw [Nat.zero_add, Nat.zero_add]
    have g := r1 j hj
    rw [Nat.zero_add, Nat.zero_add] at g
    by_cases q : k = 2 ∧ j = i
    · obtain ⟨rfl, rfl⟩ := q
      have hd : d = j ∧ 0 ≤ x.toInt := by (first | decide +kernel | omega)
      rw [hd.1] at v2
      rw [v1, v2]
      exact ⟨rfl, hd.2⟩
    · rw [cell 2 j (by (first | decide +kernel | omega)) (by (first | decide +kernel | omega)), cell 117 j (by (first | decide +kernel | omega)) (by (first | decide +kernel | omega))]
      exact g
  · rw [Nat.zero_add, Nat.zero_add]
    have g := r2 j hj
    rw [Nat.zero_add, Nat.zero_add] at g
    by_cases q : k = 6 ∧ j = i
    · obtain ⟨rfl, rfl⟩ := q
      have hd : d = 64 + j := by (first | decide +kernel | omega)
      rw [hd] at v2
      rw [v1, v2]
    · rw [cell 6 j (by (first | decide +kernel | omega)) (by (first | decide +kernel | omega)), cell 117 _ (by (first | decide +kernel | omega)) (by (first | decide +kernel | omega))]
      exact g
  · rw [Nat.zero_add, Nat.zero_add]
    have g := r3 j hj
    rw [Nat.zero_add, Nat.zero_add] at g
    by_cases q : k = 8 ∧ j = i
    · obtain ⟨rfl, rfl⟩ := q
      have hd : d = 80 + j := by (first | decide +kernel | omega)
      rw [hd] at v2
      rw [v1, v2]
    · rw [cell 8 j (by (first | decide +kernel | omega)) (by (first | decide +kernel | omega)), cell 117 _ (by (first | decide +kernel | omega)) (by (first | decide +kernel | omega))]
      exact g
theorem JB_w {h : Hp} (r : JB h) {i : Nat} (hi : i < 16) : h.1 2 i = h.1 117 i ∧ 0 ≤ (h.1 2 i).toInt := by
  have g := r.1.1 i hi
  rw [Nat.zero_add, Nat.zero_add] at g
  exact g
theorem JB_b {h : Hp} (r : JB h) {i : Nat} (hi : i < 16) : h.1 6 i = h.1 117 (64 + i) := by
  have g := r.1.2.1 i hi
  rw [Nat.zero_add, Nat.zero_add] at g
  exact g
theorem JB_p {h : Hp} (r : JB h) {i : Nat} (hi : i < 4) : h.1 8 i = h.1 117 (80 + i) := by
  have g := r.1.2.2 i hi
  rw [Nat.zero_add, Nat.zero_add] at g
  exact g
theorem JB_wet {h h1 h2 : Hp} {c : Int} {G B1 B2 : Prop} {v r1 r2 : Int32} (r : JB h) (f1 : Ewt h h1 2 c.toNat G B1 v r1) (f2 : Ewt h1 h2 117 (0 + c).toNat G B2 v r2) (hB : G → (B1 ↔ B2)) (hc : G → 0 ≤ c ∧ c < 16 ∧ 0 ≤ v.toInt) : JB h2 ∧ r1 = r2 := by
  rw [Int.zero_add] at f2
  rcases f1 with ⟨g1, b1, e1, q1⟩ | ⟨g1, b1, e1, q1⟩ | ⟨g1, e1, q1⟩
  · rcases f2 with ⟨g2, b2, e2, q2⟩ | ⟨g2, b2, e2, q2⟩ | ⟨g2, e2, q2⟩
    · have k := hc g1
      refine ⟨JB_put r (by (first | decide +kernel | omega)) e1 e2, ?_⟩
      rw [q1, q2, e1, pI_at, if_neg (by (first | decide +kernel | omega))]
      exact (JB_w r (by (first | decide +kernel | omega))).1
    · exact absurd ((hB g1).mpr b2) b1
    · exact absurd g1 g2
  · rcases f2 with ⟨g2, b2, e2, q2⟩ | ⟨g2, b2, e2, q2⟩ | ⟨g2, e2, q2⟩
    · exact absurd ((hB g1).mp b1) b2
    · rw [e1] at e2
      rw [e2]
      exact ⟨r, same_of q1 q2⟩
    · exact absurd g1 g2
  · rcases f2 with ⟨g2, b2, e2, q2⟩ | ⟨g2, b2, e2, q2⟩ | ⟨g2, e2, q2⟩
    · exact absurd g2 g1
    · exact absurd g2 g1
    · rw [e1] at e2
      rw [e2]
      exact ⟨r, same_of q1 q2⟩
theorem JB_fund {h h1 h2 : Hp} {o : Int} {G : Prop} {v r1 r2 : Int32} (r : JB h) (f1 : Er h h1 8 o.toNat G (fun x => x = v) r1) (f2 : Er h1 h2 117 (80 + o).toNat G (fun x => x = v) r2) (hc : G → 0 ≤ o ∧ o ≤ 3) : JB h2 ∧ r1 = r2 := by
  rcases f1 with ⟨g1, x, vx, e1, q1⟩ | ⟨g1, e1, q1⟩
  · rcases f2 with ⟨g2, y, vy, e2, q2⟩ | ⟨g2, e2, q2⟩
    · have k := hc g1
      rw [show y = x from vy.trans vx.symm] at e2
      refine ⟨JB_put r (by (first | decide +kernel | omega)) e1 e2, ?_⟩
      rw [q1, q2, e1, pI_at, if_neg (by (first | decide +kernel | omega)), show (80 + o).toNat = 80 + o.toNat by (first | decide +kernel | omega)]
      exact JB_p r (by (first | decide +kernel | omega))
    · exact absurd g1 g2
  · rcases f2 with ⟨g2, y, vy, e2, q2⟩ | ⟨g2, e2, q2⟩
    · exact absurd g2 g1
    · rw [e1] at e2
      rw [e2]
      exact ⟨r, m1_eq q1 q2⟩
theorem JB_bore {h h1 h2 : Hp} {o c : Int} {G : Prop} {l ow p b w co q d r s : Int32} (rr : JB h) (f : BE h h1 8 o.toNat 6 c.toNat G l ow p b w co q d r) (g : BE h1 h2 117 (80 + o).toNat 117 (64 + c).toNat G l ow p b w co q d s) (hc : G → 0 ≤ o ∧ o ≤ 3 ∧ 0 ≤ c ∧ c < 16) : JB h2 ∧ r = s := by
  obtain ⟨e, k⟩ := BE_un f g
  refine ⟨?_, e⟩
  rcases k with ⟨k1, k2⟩ | ⟨k0, x, k1, k2⟩
  · rw [k2]; exact rr
  · have hh := hc k0
    have e3 : h2 = pI (pI (pI (pI h 8 o.toNat x) 117 (80 + o).toNat x) 6 c.toNat (bD b d)) 117 (64 + c).toNat (bD b d) := by
      rw [k2, k1, pI_comm (h := pI h 8 o.toNat x) (k := 6) (by (first | decide +kernel | omega))]
    exact JB_put (JB_put rr (k := 8) (i := o.toNat) (d := (80 + o).toNat) (by (first | decide +kernel | omega)) rfl rfl) (k := 6) (i := c.toNat) (d := (64 + c).toNat) (by (first | decide +kernel | omega)) rfl e3
theorem nA_Ewt {h h' : Hp} {c : Int} {G B : Prop} {v r : Int32} (f : Ewt h h' 117 (0 + c).toNat G B v r) (hc : G → 0 ≤ c ∧ c < 16) : nA h h' := fun j hj => by
  rcases f with ⟨g, _, e, _⟩ | ⟨_, _, e, _⟩ | ⟨_, e, _⟩
  · have := hc g
    rw [e, pI_at, if_neg (by (first | decide +kernel | omega))]
  · rw [e]
  · rw [e]
theorem nA_Er {h h' : Hp} {o : Int} {G : Prop} {V : Int32 → Prop} {r : Int32} (f : Er h h' 117 (80 + o).toNat G V r) (hc : G → 0 ≤ o ∧ o ≤ 3) : nA h h' := fun j hj => by
  rcases f with ⟨g, x, _, e, _⟩ | ⟨_, e, _⟩
  · have := hc g
    rw [e, pI_at, if_neg (by (first | decide +kernel | omega))]
  · rw [e]
theorem nA_BE {h h' : Hp} {o c : Int} {G : Prop} {l ow p b w co q d r : Int32} (f : BE h h' 117 (80 + o).toNat 117 (64 + c).toNat G l ow p b w co q d r) (hc : G → 0 ≤ o ∧ o ≤ 3 ∧ 0 ≤ c ∧ c < 16) : nA h h' := fun j hj => by
  rcases f with ⟨_, e, _⟩ | ⟨g, x, _, k⟩
  · rw [e]
  · have := hc g
    rcases k with ⟨_, e, _⟩ | ⟨_, e, _⟩
    · rw [e]
    · rw [e, pI_at, if_neg (by (first | decide +kernel | omega)), pI_at, if_neg (by (first | decide +kernel | omega))]
theorem JB_rain {h h1 h2 : Hp} {G : Prop} {v : Int32} {W : Int} {S : List (Nat × Option Nat)} (r : JB h) (f1 : fr S h h1) (s1 : ckS S 3 200 = true) (E1 : G ∧ rW h h1 2 v W ∨ ¬ G ∧ h1 = h) (S2 : List (Nat × Option Nat)) (f2 : fr S2 h1 h2) (s2 : ckS S2 0 116 = true) (E2 : G ∧ rW h1 h2 117 v W ∧ (∀ j : Nat, 16 ≤ j → h2.1 117 j = h1.1 117 j) ∨ ¬ G ∧ h2 = h1) : JB h2 := by
  rcases E1 with ⟨g1, w1⟩ | ⟨g1, e1⟩
  · rcases E2 with ⟨g2, w2, n2⟩ | ⟨g2, e2⟩
    · have c1 : ∀ k i : Nat, 3 ≤ k → k ≤ 200 → h1.1 k i = h.1 k i := fun k i p q => f1.1 _ _ (ckS_no s1 p q)
      have c2 : ∀ k i : Nat, k ≤ 116 → h2.1 k i = h1.1 k i := fun k i p => f2.1 _ _ (ckS_no s2 (by (first | decide +kernel | omega)) p)
      refine JB_rest r ⟨fun i hi => ?_, fun i hi => ?_, fun i hi => ?_⟩ (fun k i w => ?_)
      · rw [Nat.zero_add, Nat.zero_add, c2 2 i (by (first | decide +kernel | omega)), w1 i hi, w2 i hi, c1 117 i (by (first | decide +kernel | omega)) (by (first | decide +kernel | omega))]
        have g := JB_w r hi
        rw [← g.1]
        refine ⟨rfl, ?_⟩
        split
        · exact rn1_nn g.2
        · exact g.2
      · rw [Nat.zero_add, Nat.zero_add, c2 6 i (by (first | decide +kernel | omega)), c1 6 i (by (first | decide +kernel | omega)) (by (first | decide +kernel | omega)), n2 _ (by (first | decide +kernel | omega)), c1 117 _ (by (first | decide +kernel | omega)) (by (first | decide +kernel | omega))]
        exact JB_b r hi
      · rw [Nat.zero_add, Nat.zero_add, c2 8 i (by (first | decide +kernel | omega)), c1 8 i (by (first | decide +kernel | omega)) (by (first | decide +kernel | omega)), n2 _ (by (first | decide +kernel | omega)), c1 117 _ (by (first | decide +kernel | omega)) (by (first | decide +kernel | omega))]
        exact JB_p r hi
      · by_cases q : k = 117
        · subst q
          rw [n2 _ (by (first | decide +kernel | omega)), c1 117 _ (by (first | decide +kernel | omega)) (by (first | decide +kernel | omega))]
        · rw [c2 k i (by (first | decide +kernel | omega)), c1 k i (by (first | decide +kernel | omega)) (by (first | decide +kernel | omega))]
    · exact absurd g1 g2
  · rcases E2 with ⟨g2, w2, n2⟩ | ⟨g2, e2⟩
    · exact absurd g2 g1
    · rw [e2, e1]; exact r
end
section
def G9 (W : Int) (o c d : Int32) : Prop := 0 ≤ o.toInt ∧ o.toInt ≤ 3 ∧ 0 ≤ c.toInt ∧ c.toInt < W ∧ 1 ≤ d.toInt ∧ d.toInt ≤ 9
def ag (n : Nat) (p q : Nat → Int32) : Prop := ∀ i : Nat, i < n → p i = q i
theorem ag_rf {n : Nat} {p : Nat → Int32} : ag n p p := fun _ _ => rfl
theorem ag_sy {n : Nat} {p q : Nat → Int32} (h : ag n p q) : ag n q p := fun i hi => (h i hi).symm
theorem ag_tr {n : Nat} {p q r : Nat → Int32} (h : ag n p q) (g : ag n q r) : ag n p r := fun i hi => (h i hi).trans (g i hi)
/-- a bore is done: purses p and bores b become p', b' -/
def ST1 (l w : Nat → Int32) (co q : Int32) (W : Int) (o c d : Int32) (p b p' b' : Nat → Int32) : Prop := G9 W o c d ∧ ∃ x : Int32, bLf (p o.toInt.toNat) (b c.toInt.toNat) (w c.toInt.toNat) co q d x ∧ ¬ bRf (l c.toInt.toNat) o (p o.toInt.toNat) (b c.toInt.toNat) co d x ∧ (∀ i : Nat, i < 4 → p' i = if i = o.toInt.toNat then x else p i) ∧ ∀ i : Nat, i < 16 → b' i = if i = c.toInt.toNat then bD (b c.toInt.toNat) d else b i
/-- a bore is refused -/
def SF1 (l w : Nat → Int32) (co q : Int32) (W : Int) (o c d : Int32) (p b : Nat → Int32) : Prop := ¬ G9 W o c d ∨ G9 W o c d ∧ ∃ x : Int32, bLf (p o.toInt.toNat) (b c.toInt.toNat) (w c.toInt.toNat) co q d x ∧ bRf (l c.toInt.toNat) o (p o.toInt.toNat) (b c.toInt.toNat) co d x
theorem ST1_cg {l w l2 w2 : Nat → Int32} {co q : Int32} {W : Int} {o c d : Int32} {p b p' b' p2 b2 : Nat → Int32} (hW : W ≤ 16) (al : ag 16 l l2) (aw : ag 16 w w2) (ap : ag 4 p p2) (ab : ag 16 b b2) (h : ST1 l w co q W o c d p b p' b') : ST1 l2 w2 co q W o c d p2 b2 p' b' := by
  obtain ⟨g, x, h1, h2, h3, h4⟩ := h
  have g' := g
  unfold G9 at g'
  rw [ap o.toInt.toNat (by (first | decide +kernel | omega)), ab c.toInt.toNat (by (first | decide +kernel | omega)), aw c.toInt.toNat (by (first | decide +kernel | omega))] at h1
  rw [al c.toInt.toNat (by (first | decide +kernel | omega)), ap o.toInt.toNat (by (first | decide +kernel | omega)), ab c.toInt.toNat (by (first | decide +kernel | omega))] at h2
  refine ⟨g, x, h1, h2, fun i hi => ?_, fun i hi => ?_⟩
  · rw [h3 i hi, ap i hi]
  · rw [h4 i hi, ab i hi, ab c.toInt.toNat (by (first | decide +kernel | omega))]
theorem SF1_cg {l w l2 w2 : Nat → Int32} {co q : Int32} {W : Int} {o c d : Int32} {p b p2 b2 : Nat → Int32} (hW : W ≤ 16) (al : ag 16 l l2) (aw : ag 16 w w2) (ap : ag 4 p p2) (ab : ag 16 b b2) (h : SF1 l w co q W o c d p b) : SF1 l2 w2 co q W o c d p2 b2 := by
  rcases h with h | ⟨g, x, h1, h2⟩
  · exact Or.inl h
  · have g' := g
    unfold G9 at g'
    rw [ap o.toInt.toNat (by (first | decide +kernel | omega)), ab c.toInt.toNat (by (first | decide +kernel | omega)), aw c.toInt.toNat (by (first | decide +kernel | omega))] at h1
    rw [al c.toInt.toNat (by (first | decide +kernel | omega)), ap o.toInt.toNat (by (first | decide +kernel | omega)), ab c.toInt.toNat (by (first | decide +kernel | omega))] at h2
    exact Or.inr ⟨g, x, h1, h2⟩
theorem ST1_un {l w : Nat → Int32} {co q : Int32} {W : Int} {o c d : Int32} {p b p' b' p2 b2 : Nat → Int32} (h : ST1 l w co q W o c d p b p' b') (g : ST1 l w co q W o c d p b p2 b2) : ag 4 p' p2 ∧ ag 16 b' b2 := by
  obtain ⟨_, x, h1, _, h3, h4⟩ := h
  obtain ⟨_, y, g1, _, g3, g4⟩ := g
  have e := bLf_un h1 g1
  subst e
  exact ⟨fun i hi => by rw [h3 i hi, g3 i hi], fun i hi => by rw [h4 i hi, g4 i hi]⟩
theorem ST1_SF {l w : Nat → Int32} {co q : Int32} {W : Int} {o c d : Int32} {p b p' b' : Nat → Int32} (h : ST1 l w co q W o c d p b p' b') (g : SF1 l w co q W o c d p b) : False := by
  obtain ⟨g0, x, h1, h2, _⟩ := h
  rcases g with g | ⟨_, y, g1, g2⟩
  · exact g g0
  · have e := bLf_un h1 g1
    subst e
    exact h2 g2
/-- n bores of a sheet s from cell f on -/
def RN (l w : Nat → Int32) (co q : Int32) (W : Int) (s : Nat → Int32) (f : Nat) (p b : Nat → Int32) : Nat → (Nat → Int32) → (Nat → Int32) → Prop
  | 0, p', b' => ag 4 p p' ∧ ag 16 b b'
  | n + 1, p', b' => ∃ p1 b1 : Nat → Int32, RN l w co q W s f p b n p1 b1 ∧ ST1 l w co q W (s (f + 3 * n)) (s (f + 3 * n + 1)) (s (f + 3 * n + 2)) p1 b1 p' b'
theorem RN_un {l w : Nat → Int32} {co q : Int32} {W : Int} {s : Nat → Int32} {f : Nat} {p b : Nat → Int32} (hW : W ≤ 16) : ∀ (n : Nat) (p1 b1 p2 b2 : Nat → Int32), RN l w co q W s f p b n p1 b1 → RN l w co q W s f p b n p2 b2 → ag 4 p1 p2 ∧ ag 16 b1 b2 := by
  intro n
  induction n with
  | zero => intro p1 b1 p2 b2 h g; exact ⟨ag_tr (ag_sy h.1) g.1, ag_tr (ag_sy h.2) g.2⟩
  | succ n ih =>
    intro p1 b1 p2 b2 h g
    obtain ⟨pa, ba, ha, hb⟩ := h
    obtain ⟨pc, bc, ga, gb⟩ := g
    obtain ⟨e1, e2⟩ := ih pa ba pc bc ha ga
    exact ST1_un hb (ST1_cg hW ag_rf ag_rf (ag_sy e1) (ag_sy e2) gb)
theorem RN_pre {l w : Nat → Int32} {co q : Int32} {W : Int} {s : Nat → Int32} {f : Nat} {p b : Nat → Int32} : ∀ (n i : Nat) (p' b' : Nat → Int32), i < n → RN l w co q W s f p b n p' b' → ∃ p1 b1 p2 b2 : Nat → Int32, RN l w co q W s f p b i p1 b1 ∧ ST1 l w co q W (s (f + 3 * i)) (s (f + 3 * i + 1)) (s (f + 3 * i + 2)) p1 b1 p2 b2 := by
  intro n
  induction n with
  | zero => intro i p' b' hi; omega
  | succ n ih =>
    intro i p' b' hi h
    obtain ⟨p1, b1, h1, h2⟩ := h
    by_cases e : i = n
    · subst e; exact ⟨p1, b1, p', b', h1, h2⟩
    · exact ih i p1 b1 (by (first | decide +kernel | omega)) h1
theorem RN_cg {l w l2 w2 : Nat → Int32} {co q : Int32} {W : Int} {s s2 : Nat → Int32} {f m : Nat} {p b p2 b2 : Nat → Int32} (hW : W ≤ 16) (al : ag 16 l l2) (aw : ag 16 w w2) (ap : ag 4 p p2) (ab : ag 16 b b2) (as : ∀ j : Nat, f ≤ j → j < f + 3 * m → s j = s2 j) : ∀ (n : Nat) (p' b' : Nat → Int32), n ≤ m → RN l w co q W s f p b n p' b' → RN l2 w2 co q W s2 f p2 b2 n p' b' := by
  intro n
  induction n with
  | zero => intro p' b' _ h; exact ⟨ag_tr (ag_sy ap) h.1, ag_tr (ag_sy ab) h.2⟩
  | succ n ih =>
    intro p' b' hn h
    obtain ⟨p1, b1, h1, h2⟩ := h
    refine ⟨p1, b1, ih p1 b1 (by (first | decide +kernel | omega)) h1, ?_⟩
    rw [← as _ (by (first | decide +kernel | omega)) (by (first | decide +kernel | omega)), ← as _ (by (first | decide +kernel | omega)) (by (first | decide +kernel | omega)), ← as _ (by (first | decide +kernel | omega)) (by (first | decide +kernel | omega))]
    exact ST1_cg hW al aw ag_rf ag_rf h2
/-- what a read answers, and what it leaves: all m bores are done, or one is refused and all is as it was -/
def RO (l w : Nat → Int32) (co q : Int32) (W : Int) (s : Nat → Int32) (f m : Nat) (p b : Nat → Int32) (r : Int32) (p' b' : Nat → Int32) : Prop := r.toInt = m ∧ RN l w co q W s f p b m p' b' ∨ (∃ i : Nat, i < m ∧ r.toInt = -20 - (i : Int) ∧ ∃ p1 b1 : Nat → Int32, RN l w co q W s f p b i p1 b1 ∧ SF1 l w co q W (s (f + 3 * i)) (s (f + 3 * i + 1)) (s (f + 3 * i + 2)) p1 b1) ∧ ag 4 p p' ∧ ag 16 b b'
theorem RO_un {l w : Nat → Int32} {co q : Int32} {W : Int} {s : Nat → Int32} {f m : Nat} {p b p1 b1 p2 b2 : Nat → Int32} {r1 r2 : Int32} (hW : W ≤ 16) (h : RO l w co q W s f m p b r1 p1 b1) (g : RO l w co q W s f m p b r2 p2 b2) : r1 = r2 ∧ ag 4 p1 p2 ∧ ag 16 b1 b2 := by
  rcases h with ⟨h1, h2⟩ | ⟨⟨i, hi, h1, pa, ba, h2, h3⟩, h4, h5⟩
  · rcases g with ⟨g1, g2⟩ | ⟨⟨j, hj, g1, pc, bc, g2, g3⟩, g4, g5⟩
    · exact ⟨same_of h1 g1, RN_un hW m _ _ _ _ h2 g2⟩
    · exfalso
      obtain ⟨pd, bd, pe, be, d1, d2⟩ := RN_pre m j _ _ hj h2
      obtain ⟨e1, e2⟩ := RN_un hW j _ _ _ _ g2 d1
      exact ST1_SF d2 (SF1_cg hW ag_rf ag_rf e1 e2 g3)
  · rcases g with ⟨g1, g2⟩ | ⟨⟨j, hj, g1, pc, bc, g2, g3⟩, g4, g5⟩
    · exfalso
      obtain ⟨pd, bd, pe, be, d1, d2⟩ := RN_pre m i _ _ hi g2
      obtain ⟨e1, e2⟩ := RN_un hW i _ _ _ _ h2 d1
      exact ST1_SF d2 (SF1_cg hW ag_rf ag_rf e1 e2 h3)
    · have hij : i = j := by
        by_cases c : i < j
        · exfalso
          obtain ⟨pd, bd, pe, be, d1, d2⟩ := RN_pre j i _ _ c g2
          obtain ⟨e1, e2⟩ := RN_un hW i _ _ _ _ h2 d1
          exact ST1_SF d2 (SF1_cg hW ag_rf ag_rf e1 e2 h3)
        · by_cases c2 : j < i
          · exfalso
            obtain ⟨pd, bd, pe, be, d1, d2⟩ := RN_pre i j _ _ c2 h2
            obtain ⟨e1, e2⟩ := RN_un hW j _ _ _ _ g2 d1
            exact ST1_SF d2 (SF1_cg hW ag_rf ag_rf e1 e2 g3)
          · omega
      subst hij
      exact ⟨same_of h1 g1, ag_tr (ag_sy h4) g4, ag_tr (ag_sy h5) g5⟩
/-- a bore of an object, as such a step -/
theorem ST_of {h h' : Hp} {kp kb op ob : Nat} {W : Int} {l w : Nat → Int32} {lo o c d co q r : Int32} {wo : Int32} (hne : kp ≠ kb ∨ op + 4 ≤ ob ∨ ob + 16 ≤ op) (hW : W ≤ 16) (f : BE h h' kp (op + o.toInt.toNat) kb (ob + c.toInt.toNat) (G9 W o c d) lo o (h.1 kp (op + o.toInt.toNat)) (h.1 kb (ob + c.toInt.toNat)) wo co q d r) (hl : G9 W o c d → lo = l c.toInt.toNat) (hw : G9 W o c d → wo = w c.toInt.toNat) : r.toInt < 0 ∧ h' = h ∧ SF1 l w co q W o c d (fun i => h.1 kp (op + i)) (fun i => h.1 kb (ob + i)) ∨ 0 ≤ r.toInt ∧ ST1 l w co q W o c d (fun i => h.1 kp (op + i)) (fun i => h.1 kb (ob + i)) (fun i => h'.1 kp (op + i)) (fun i => h'.1 kb (ob + i)) := by
  rcases f with ⟨f1, f2, f3⟩ | ⟨f1, x, f2, f3⟩
  · exact Or.inl ⟨by (first | decide +kernel | omega), f2, Or.inl f1⟩
  · rw [hw f1] at f2 f3
    rw [hl f1] at f3
    rcases f3 with ⟨a1, a2, a3⟩ | ⟨a1, a2, a3⟩
    · exact Or.inl ⟨by (first | decide +kernel | omega), a2, Or.inr ⟨f1, x, f2, a1⟩⟩
    · refine Or.inr ⟨by rcases a3 with ⟨_, a⟩ | ⟨_, a⟩ <;> omega, f1, x, f2, a1, fun i hi => ?_, fun i hi => ?_⟩
      · have g := f1
        unfold G9 at g
        show h'.1 kp (op + i) = _
        rw [a2, pI_at, if_neg (by (first | decide +kernel | omega)), pI_at]
        by_cases e : i = o.toInt.toNat
        · subst e; rw [if_pos ⟨rfl, rfl⟩, if_pos rfl]
        · rw [if_neg (by (first | decide +kernel | omega)), if_neg e]
      · have g := f1
        unfold G9 at g
        show h'.1 kb (ob + i) = _
        rw [a2, pI_at]
        by_cases e : i = c.toInt.toNat
        · subst e; rw [if_pos ⟨rfl, rfl⟩, if_pos rfl]
        · rw [if_neg (by (first | decide +kernel | omega)), if_neg e, pI_at, if_neg (by (first | decide +kernel | omega))]
end
section
def whl (t s l f n : Int) : Int := if t ≠ l ∨ f < 0 ∨ s ≤ f then 0 else if n ≤ (s - f) / 3 then n else (s - f) / 3
def sp3 (h h' : Hp) : Prop := (∀ k i : Nat, cpl k i → h'.1 (17 + k) i = h.1 k i) ∧ ∀ k i : Nat, cpl k i → k ≠ 6 ∧ k ≠ 8 → h'.1 k i = h.1 k i
theorem sp3_of {S : List (Nat × Option Nat)} {h h1 : Hp} (c : cpy h h1 17 0) (f : fr S h h1) (ck : ckS S 0 16 = true) : sp3 h h1 := by
  refine ⟨fun k i hk => ?_, fun k i hk _ => f.1 _ _ (ckS_no ck (by (first | decide +kernel | omega)) (cpl_k hk))⟩
  have g := c k i hk
  rw [Nat.zero_add] at g
  exact g
theorem sp3_fr {S : List (Nat × Option Nat)} {h h1 h2 : Hp} (r : sp3 h h1) (f : fr S h1 h2) (ck : spS S = true) : sp3 h h2 := by
  refine ⟨fun k i hk => ?_, fun k i hk hn => ?_⟩
  · have := cpl_k hk
    rw [f.1 (17 + k) i (spS_no ck (by (first | decide +kernel | omega)))]
    exact r.1 k i hk
  · have := cpl_k hk
    rw [f.1 k i (spS_no ck (by (first | decide +kernel | omega)))]
    exact r.2 k i hk hn
theorem sp3_put {h h1 h2 : Hp} {k' i' : Nat} {x : Int32} (r : sp3 h h1) (e : h2 = pI h1 k' i' x) (ck : 33 < k') : sp3 h h2 := by
  refine ⟨fun k i hk => ?_, fun k i hk hn => ?_⟩
  · have := cpl_k hk
    rw [e, pI_at, if_neg (by (first | decide +kernel | omega))]
    exact r.1 k i hk
  · have := cpl_k hk
    rw [e, pI_at, if_neg (by (first | decide +kernel | omega))]
    exact r.2 k i hk hn
def cF (h h' : Hp) : Prop := ∀ k i : Nat, cpl k i → h'.1 k i = h.1 k i
theorem sp3_back {h h1 h2 : Hp} (r : sp3 h h1) (c : cpy h1 h2 0 17) : cF h h2 := fun k i hk => by
  have g := c k i hk
  rw [Nat.zero_add] at g
  rw [g]
  exact r.1 k i hk
/-- the class's read, behind what it refuses at once -/
def RDc (h h' : Hp) (k : Nat) (l f n W : Int) (r : Int32) : Prop := (∃ m : Nat, (m : Int) = whl (h.1 (108 + 2 * k) 1).toInt (h.1 (108 + 2 * k) 2).toInt l f n ∧ RO (h.1 5) (h.1 2) (h.1 1 2) (h.1 1 3) W (h.1 (109 + 2 * k)) f.toNat m (h.1 8) (h.1 6) r (h'.1 8) (h'.1 6)) ∧ ∀ k i : Nat, cpl k i → k ≠ 6 ∧ k ≠ 8 → h'.1 k i = h.1 k i
/-- one bore more, in the class -/
theorem RN_c {h hx hy : Hp} {row f n : Nat} {W o c dd : Int} {y0 y1 y2 r : Int32} (hW : W ≤ 16) (rn : RN (h.1 5) (h.1 2) (h.1 1 2) (h.1 1 3) W (h.1 row) f (h.1 8) (h.1 6) n (hx.1 8) (hx.1 6)) (sp : sp3 h hx) (e0 : y0.toInt = o) (e1 : y1.toInt = c) (e2 : y2.toInt = dd) (be : BE hx hy 8 o.toNat 6 c.toNat (0 ≤ o ∧ o ≤ 3 ∧ 0 ≤ c ∧ c < W ∧ 1 ≤ dd ∧ dd ≤ 9) (hx.1 5 c.toNat) y0 (hx.1 8 o.toNat) (hx.1 6 c.toNat) (hx.1 2 c.toNat) (hx.1 1 2) (hx.1 1 3) y2 r) (s0 : y0 = h.1 row (f + 3 * n)) (s1 : y1 = h.1 row (f + 3 * n + 1)) (s2 : y2 = h.1 row (f + 3 * n + 2)) : r.toInt < 0 ∧ hy = hx ∧ SF1 (h.1 5) (h.1 2) (h.1 1 2) (h.1 1 3) W (h.1 row (f + 3 * n)) (h.1 row (f + 3 * n + 1)) (h.1 row (f + 3 * n + 2)) (hx.1 8) (hx.1 6) ∨ 0 ≤ r.toInt ∧ RN (h.1 5) (h.1 2) (h.1 1 2) (h.1 1 3) W (h.1 row) f (h.1 8) (h.1 6) (n + 1) (hy.1 8) (hy.1 6) := by
  subst e0
  subst e1
  subst e2
  rw [sp.2 1 2 (by unfold cpl; omega) (by (first | decide +kernel | omega)), sp.2 1 3 (by unfold cpl; omega) (by (first | decide +kernel | omega))] at be
  have k := ST_of (h := hx) (h' := hy) (kp := 8) (kb := 6) (op := 0) (ob := 0) (l := h.1 5) (w := h.1 2) (W := W) (o := y0) (c := y1) (d := y2) (Or.inl (by decide)) hW (by rw [Nat.zero_add, Nat.zero_add]; exact be) (fun g => sp.2 5 _ (by unfold G9 at g; unfold cpl; omega) (by (first | decide +kernel | omega))) (fun g => sp.2 2 _ (by unfold G9 at g; unfold cpl; omega) (by (first | decide +kernel | omega)))
  have z8 : ∀ g : Hp, ag 4 (fun i => g.1 8 (0 + i)) (g.1 8) := fun g i _ => by show g.1 8 (0 + i) = g.1 8 i; rw [Nat.zero_add]
  have z6 : ∀ g : Hp, ag 16 (fun i => g.1 6 (0 + i)) (g.1 6) := fun g i _ => by show g.1 6 (0 + i) = g.1 6 i; rw [Nat.zero_add]
  rw [← s0, ← s1, ← s2]
  rcases k with ⟨k1, k2, k3⟩ | ⟨k1, k2⟩
  · exact Or.inl ⟨k1, k2, SF1_cg hW ag_rf ag_rf (z8 hx) (z6 hx) k3⟩
  · refine Or.inr ⟨k1, hx.1 8, hx.1 6, rn, ?_⟩
    rw [← s0, ← s1, ← s2]
    obtain ⟨g, x, a1, a2, a3, a4⟩ := ST1_cg hW ag_rf ag_rf (z8 hx) (z6 hx) k2
    exact ⟨g, x, a1, a2, fun i hi => (z8 hy i hi).symm.trans (a3 i hi), fun i hi => (z6 hy i hi).symm.trans (a4 i hi)⟩
theorem RN_0 {h hx : Hp} {row f : Nat} {W : Int} (sp : ∀ k i : Nat, k ≤ 16 → hx.1 k i = h.1 k i) : RN (h.1 5) (h.1 2) (h.1 1 2) (h.1 1 3) W (h.1 row) f (h.1 8) (h.1 6) 0 (hx.1 8) (hx.1 6) := ⟨fun i _ => (sp 8 i (by (first | decide +kernel | omega))).symm, fun i _ => (sp 6 i (by (first | decide +kernel | omega))).symm⟩
theorem RDc_bad {h hx hz : Hp} {k m n : Nat} {l f nn W : Int} {r : Int32} (hm : (m : Int) = whl (h.1 (108 + 2 * k) 1).toInt (h.1 (108 + 2 * k) 2).toInt l f nn) (hn : n < m) (er : r.toInt = -20 - (n : Int)) (rn : RN (h.1 5) (h.1 2) (h.1 1 2) (h.1 1 3) W (h.1 (109 + 2 * k)) f.toNat (h.1 8) (h.1 6) n (hx.1 8) (hx.1 6)) (sf : SF1 (h.1 5) (h.1 2) (h.1 1 2) (h.1 1 3) W (h.1 (109 + 2 * k) (f.toNat + 3 * n)) (h.1 (109 + 2 * k) (f.toNat + 3 * n + 1)) (h.1 (109 + 2 * k) (f.toNat + 3 * n + 2)) (hx.1 8) (hx.1 6)) (c : cF h hz) : RDc h hz k l f nn W r := by
  refine ⟨⟨m, hm, Or.inr ⟨⟨n, hn, er, _, _, rn, sf⟩, fun i hi => (c 8 i (by unfold cpl; omega)).symm, fun i hi => (c 6 i (by unfold cpl; omega)).symm⟩⟩, fun k i hk _ => c k i hk⟩
theorem RDc_good {h hx : Hp} {k m : Nat} {l f nn W : Int} {r : Int32} (hm : (m : Int) = whl (h.1 (108 + 2 * k) 1).toInt (h.1 (108 + 2 * k) 2).toInt l f nn) (er : r.toInt = (m : Int)) (rn : RN (h.1 5) (h.1 2) (h.1 1 2) (h.1 1 3) W (h.1 (109 + 2 * k)) f.toNat (h.1 8) (h.1 6) m (hx.1 8) (hx.1 6)) (sp : sp3 h hx) : RDc h hx k l f nn W r := ⟨⟨m, hm, Or.inl ⟨er, rn⟩⟩, sp.2⟩
end
section
abbrev q_Sheet_wholeBoresX_0 (h : Hp) (l : Int32) (lZ : Int) (f : Int32) (fZ : Int) (n : Int32) (nZ : Int) (t : Int32) (tZ : Int) (s : Int32) (sZ : Int) : Option Value → Hp → Prop := pInt (fun r h' => h = h' ∧ (r.toInt = whl tZ sZ lZ fZ nZ ∧ 0 ≤ r.toInt ∧ r.toInt ≤ nZ ∧ (r.toInt = 0 ∨ 0 ≤ fZ ∧ fZ + 3 * r.toInt ≤ sZ)))
set_option maxRecDepth 100000 in
theorem c_Sheet_wholeBoresX_0 (h : Hp) (hI : Inv h) (l : Int32) (lZ : Int) (lE : l.toInt = lZ) (f : Int32) (fZ : Int) (fE : f.toInt = fZ) (n : Int32) (nZ : Int) (nE : n.toInt = nZ) (t : Int32) (tZ : Int) (tE : t.toInt = tZ) (tK : h.1 108 1 = t) (s : Int32) (sZ : Int) (sE : s.toInt = sZ) (sK : h.1 108 2 = s) (hy0 : 0 ≤ nZ ∧ nZ ≤ 13) : Ct y_Sheet_wholeBores b_Sheet_wholeBores 4 (some .int) 1 21 [.ref 108, .int l, .int f, .int n] h (q_Sheet_wholeBoresX_0 h l lZ f fZ n nZ t tZ s sZ) := by
  refine ct_ow R_Sheet [some (.ref 108), some (.int l), some (.int f), some (.int n)] rfl (by decide) rfl (Nat.le_of_ble_eq_true rfl) ?_
  have f0 : fr [] h h := fr_rf
  have g1 : 0 ≤ sZ ∧ sZ ≤ 40 := inv_at hI sE sK.symm rfl
  refine V_aload_n 0 d_Sheet_wholeBores_0 rfl rfl ?_
  refine N_getK fa_Sheet_15 sk_108 rfl d_Sheet_wholeBores_1 tK ?_
  refine V_iload_n 1 d_Sheet_wholeBores_4 rfl rfl ?_
  refine V_icmp_ne 20 tE lE d_Sheet_wholeBores_5 (by decide) (fun c2 => ?_) (fun c2 => ?_)
  ·
    refine V_iconst 0 d_Sheet_wholeBores_20 (by decide) ?_
    exact V_iret rfl d_Sheet_wholeBores_21 ⟨0, rfl, ⟨rfl, ⟨by unfold whl; rw [if_pos (by (first | decide +kernel | omega))]; rfl, by (try rw [show Int32.toInt 0 = 0 from rfl]) <;> omega⟩⟩⟩
  ·
    refine V_iload_n 2 d_Sheet_wholeBores_8 rfl rfl ?_
    refine V_if_lt 20 fE d_Sheet_wholeBores_9 (by decide) (fun c3 => ?_) (fun c3 => ?_)
    ·
      refine V_iconst 0 d_Sheet_wholeBores_20 (by decide) ?_
      exact V_iret rfl d_Sheet_wholeBores_21 ⟨0, rfl, ⟨rfl, ⟨by unfold whl; rw [if_pos (by (first | decide +kernel | omega))]; rfl, by (try rw [show Int32.toInt 0 = 0 from rfl]) <;> omega⟩⟩⟩
    ·
      refine V_iload_n 2 d_Sheet_wholeBores_12 rfl rfl ?_
      refine V_aload_n 0 d_Sheet_wholeBores_13 rfl rfl ?_
      refine N_getK fa_Sheet_25 sk_108 rfl d_Sheet_wholeBores_14 sK ?_
      refine V_icmp_lt 22 fE sE d_Sheet_wholeBores_17 (by decide) (fun c4 => ?_) (fun c4 => ?_)
      ·
        refine V_iload_n 3 d_Sheet_wholeBores_22 rfl rfl ?_
        refine V_aload_n 0 d_Sheet_wholeBores_23 rfl rfl ?_
        refine N_getK fa_Sheet_25 sk_108 rfl d_Sheet_wholeBores_24 sK ?_
        refine V_iload_n 2 d_Sheet_wholeBores_27 rfl rfl ?_
        refine V_isub sE fE (by (first | decide +kernel | omega)) d_Sheet_wholeBores_28 (fun z5 z5e z5E => ?_)
        refine V_iconst 3 d_Sheet_wholeBores_29 (by decide) ?_
        refine N_idiv z5E tc_3 (by (first | decide +kernel | omega)) d_Sheet_wholeBores_30 (fun z6 z6e z6E => ?_)
        refine N_min nE z6E wm_Sheet_28 d_Sheet_wholeBores_31 (Nat.le_of_ble_eq_true rfl) (by decide) wmin1 wM2 wmin3 (fun z7 z7Z z7E z7e z7g => ?_)
        exact V_iret rfl d_Sheet_wholeBores_34 ⟨z7, rfl, ⟨rfl, ⟨by rw [z7E]; unfold whl; rw [if_neg (by (first | decide +kernel | omega))]; split <;> omega, by rw [z7E]; omega⟩⟩⟩
      ·
        refine V_iconst 0 d_Sheet_wholeBores_20 (by decide) ?_
        exact V_iret rfl d_Sheet_wholeBores_21 ⟨0, rfl, ⟨rfl, ⟨by unfold whl; rw [if_pos (by (first | decide +kernel | omega))]; rfl, by (try rw [show Int32.toInt 0 = 0 from rfl]) <;> omega⟩⟩⟩
abbrev q_Sheet_wholeBoresX_1 (h : Hp) (l : Int32) (lZ : Int) (f : Int32) (fZ : Int) (n : Int32) (nZ : Int) (t : Int32) (tZ : Int) (s : Int32) (sZ : Int) : Option Value → Hp → Prop := pInt (fun r h' => h = h' ∧ (r.toInt = whl tZ sZ lZ fZ nZ ∧ 0 ≤ r.toInt ∧ r.toInt ≤ nZ ∧ (r.toInt = 0 ∨ 0 ≤ fZ ∧ fZ + 3 * r.toInt ≤ sZ)))
set_option maxRecDepth 100000 in
theorem c_Sheet_wholeBoresX_1 (h : Hp) (hI : Inv h) (l : Int32) (lZ : Int) (lE : l.toInt = lZ) (f : Int32) (fZ : Int) (fE : f.toInt = fZ) (n : Int32) (nZ : Int) (nE : n.toInt = nZ) (t : Int32) (tZ : Int) (tE : t.toInt = tZ) (tK : h.1 110 1 = t) (s : Int32) (sZ : Int) (sE : s.toInt = sZ) (sK : h.1 110 2 = s) (hy0 : 0 ≤ nZ ∧ nZ ≤ 13) : Ct y_Sheet_wholeBores b_Sheet_wholeBores 4 (some .int) 1 21 [.ref 110, .int l, .int f, .int n] h (q_Sheet_wholeBoresX_1 h l lZ f fZ n nZ t tZ s sZ) := by
  refine ct_ow R_Sheet [some (.ref 110), some (.int l), some (.int f), some (.int n)] rfl (by decide) rfl (Nat.le_of_ble_eq_true rfl) ?_
  have f0 : fr [] h h := fr_rf
  have g1 : 0 ≤ sZ ∧ sZ ≤ 40 := inv_at hI sE sK.symm rfl
  refine V_aload_n 0 d_Sheet_wholeBores_0 rfl rfl ?_
  refine N_getK fa_Sheet_15 sk_110 rfl d_Sheet_wholeBores_1 tK ?_
  refine V_iload_n 1 d_Sheet_wholeBores_4 rfl rfl ?_
  refine V_icmp_ne 20 tE lE d_Sheet_wholeBores_5 (by decide) (fun c2 => ?_) (fun c2 => ?_)
  ·
    refine V_iconst 0 d_Sheet_wholeBores_20 (by decide) ?_
    exact V_iret rfl d_Sheet_wholeBores_21 ⟨0, rfl, ⟨rfl, ⟨by unfold whl; rw [if_pos (by (first | decide +kernel | omega))]; rfl, by (try rw [show Int32.toInt 0 = 0 from rfl]) <;> omega⟩⟩⟩
  ·
    refine V_iload_n 2 d_Sheet_wholeBores_8 rfl rfl ?_
    refine V_if_lt 20 fE d_Sheet_wholeBores_9 (by decide) (fun c3 => ?_) (fun c3 => ?_)
    ·
      refine V_iconst 0 d_Sheet_wholeBores_20 (by decide) ?_
      exact V_iret rfl d_Sheet_wholeBores_21 ⟨0, rfl, ⟨rfl, ⟨by unfold whl; rw [if_pos (by (first | decide +kernel | omega))]; rfl, by (try rw [show Int32.toInt 0 = 0 from rfl]) <;> omega⟩⟩⟩
    ·
      refine V_iload_n 2 d_Sheet_wholeBores_12 rfl rfl ?_
      refine V_aload_n 0 d_Sheet_wholeBores_13 rfl rfl ?_
      refine N_getK fa_Sheet_25 sk_110 rfl d_Sheet_wholeBores_14 sK ?_
      refine V_icmp_lt 22 fE sE d_Sheet_wholeBores_17 (by decide) (fun c4 => ?_) (fun c4 => ?_)
      ·
        refine V_iload_n 3 d_Sheet_wholeBores_22 rfl rfl ?_
        refine V_aload_n 0 d_Sheet_wholeBores_23 rfl rfl ?_
        refine N_getK fa_Sheet_25 sk_110 rfl d_Sheet_wholeBores_24 sK ?_
        refine V_iload_n 2 d_Sheet_wholeBores_27 rfl rfl ?_
        refine V_isub sE fE (by (first | decide +kernel | omega)) d_Sheet_wholeBores_28 (fun z5 z5e z5E => ?_)
        refine V_iconst 3 d_Sheet_wholeBores_29 (by decide) ?_
        refine N_idiv z5E tc_3 (by (first | decide +kernel | omega)) d_Sheet_wholeBores_30 (fun z6 z6e z6E => ?_)
        refine N_min nE z6E wm_Sheet_28 d_Sheet_wholeBores_31 (Nat.le_of_ble_eq_true rfl) (by decide) wmin1 wM2 wmin3 (fun z7 z7Z z7E z7e z7g => ?_)
        exact V_iret rfl d_Sheet_wholeBores_34 ⟨z7, rfl, ⟨rfl, ⟨by rw [z7E]; unfold whl; rw [if_neg (by (first | decide +kernel | omega))]; split <;> omega, by rw [z7E]; omega⟩⟩⟩
      ·
        refine V_iconst 0 d_Sheet_wholeBores_20 (by decide) ?_
        exact V_iret rfl d_Sheet_wholeBores_21 ⟨0, rfl, ⟨rfl, ⟨by unfold whl; rw [if_pos (by (first | decide +kernel | omega))]; rfl, by (try rw [show Int32.toInt 0 = 0 from rfl]) <;> omega⟩⟩⟩
abbrev q_Sheet_wholeBoresX_2 (h : Hp) (l : Int32) (lZ : Int) (f : Int32) (fZ : Int) (n : Int32) (nZ : Int) (t : Int32) (tZ : Int) (s : Int32) (sZ : Int) : Option Value → Hp → Prop := pInt (fun r h' => h = h' ∧ (r.toInt = whl tZ sZ lZ fZ nZ ∧ 0 ≤ r.toInt ∧ r.toInt ≤ nZ ∧ (r.toInt = 0 ∨ 0 ≤ fZ ∧ fZ + 3 * r.toInt ≤ sZ)))
set_option maxRecDepth 100000 in
theorem c_Sheet_wholeBoresX_2 (h : Hp) (hI : Inv h) (l : Int32) (lZ : Int) (lE : l.toInt = lZ) (f : Int32) (fZ : Int) (fE : f.toInt = fZ) (n : Int32) (nZ : Int) (nE : n.toInt = nZ) (t : Int32) (tZ : Int) (tE : t.toInt = tZ) (tK : h.1 112 1 = t) (s : Int32) (sZ : Int) (sE : s.toInt = sZ) (sK : h.1 112 2 = s) (hy0 : 0 ≤ nZ ∧ nZ ≤ 13) : Ct y_Sheet_wholeBores b_Sheet_wholeBores 4 (some .int) 1 21 [.ref 112, .int l, .int f, .int n] h (q_Sheet_wholeBoresX_2 h l lZ f fZ n nZ t tZ s sZ) := by
  refine ct_ow R_Sheet [some (.ref 112), some (.int l), some (.int f), some (.int n)] rfl (by decide) rfl (Nat.le_of_ble_eq_true rfl) ?_
  have f0 : fr [] h h := fr_rf
  have g1 : 0 ≤ sZ ∧ sZ ≤ 40 := inv_at hI sE sK.symm rfl
  refine V_aload_n 0 d_Sheet_wholeBores_0 rfl rfl ?_
  refine N_getK fa_Sheet_15 sk_112 rfl d_Sheet_wholeBores_1 tK ?_
  refine V_iload_n 1 d_Sheet_wholeBores_4 rfl rfl ?_
  refine V_icmp_ne 20 tE lE d_Sheet_wholeBores_5 (by decide) (fun c2 => ?_) (fun c2 => ?_)
  ·
    refine V_iconst 0 d_Sheet_wholeBores_20 (by decide) ?_
    exact V_iret rfl d_Sheet_wholeBores_21 ⟨0, rfl, ⟨rfl, ⟨by unfold whl; rw [if_pos (by (first | decide +kernel | omega))]; rfl, by (try rw [show Int32.toInt 0 = 0 from rfl]) <;> omega⟩⟩⟩
  ·
    refine V_iload_n 2 d_Sheet_wholeBores_8 rfl rfl ?_
    refine V_if_lt 20 fE d_Sheet_wholeBores_9 (by decide) (fun c3 => ?_) (fun c3 => ?_)
    ·
      refine V_iconst 0 d_Sheet_wholeBores_20 (by decide) ?_
      exact V_iret rfl d_Sheet_wholeBores_21 ⟨0, rfl, ⟨rfl, ⟨by unfold whl; rw [if_pos (by (first | decide +kernel | omega))]; rfl, by (try rw [show Int32.toInt 0 = 0 from rfl]) <;> omega⟩⟩⟩
    ·
      refine V_iload_n 2 d_Sheet_wholeBores_12 rfl rfl ?_
      refine V_aload_n 0 d_Sheet_wholeBores_13 rfl rfl ?_
      refine N_getK fa_Sheet_25 sk_112 rfl d_Sheet_wholeBores_14 sK ?_
      refine V_icmp_lt 22 fE sE d_Sheet_wholeBores_17 (by decide) (fun c4 => ?_) (fun c4 => ?_)
      ·
        refine V_iload_n 3 d_Sheet_wholeBores_22 rfl rfl ?_
        refine V_aload_n 0 d_Sheet_wholeBores_23 rfl rfl ?_
        refine N_getK fa_Sheet_25 sk_112 rfl d_Sheet_wholeBores_24 sK ?_
        refine V_iload_n 2 d_Sheet_wholeBores_27 rfl rfl ?_
        refine V_isub sE fE (by (first | decide +kernel | omega)) d_Sheet_wholeBores_28 (fun z5 z5e z5E => ?_)
        refine V_iconst 3 d_Sheet_wholeBores_29 (by decide) ?_
        refine N_idiv z5E tc_3 (by (first | decide +kernel | omega)) d_Sheet_wholeBores_30 (fun z6 z6e z6E => ?_)
        refine N_min nE z6E wm_Sheet_28 d_Sheet_wholeBores_31 (Nat.le_of_ble_eq_true rfl) (by decide) wmin1 wM2 wmin3 (fun z7 z7Z z7E z7e z7g => ?_)
        exact V_iret rfl d_Sheet_wholeBores_34 ⟨z7, rfl, ⟨rfl, ⟨by rw [z7E]; unfold whl; rw [if_neg (by (first | decide +kernel | omega))]; split <;> omega, by rw [z7E]; omega⟩⟩⟩
      ·
        refine V_iconst 0 d_Sheet_wholeBores_20 (by decide) ?_
        exact V_iret rfl d_Sheet_wholeBores_21 ⟨0, rfl, ⟨rfl, ⟨by unfold whl; rw [if_pos (by (first | decide +kernel | omega))]; rfl, by (try rw [show Int32.toInt 0 = 0 from rfl]) <;> omega⟩⟩⟩
abbrev q_Sheet_wholeBoresX_3 (h : Hp) (l : Int32) (lZ : Int) (f : Int32) (fZ : Int) (n : Int32) (nZ : Int) (t : Int32) (tZ : Int) (s : Int32) (sZ : Int) : Option Value → Hp → Prop := pInt (fun r h' => h = h' ∧ (r.toInt = whl tZ sZ lZ fZ nZ ∧ 0 ≤ r.toInt ∧ r.toInt ≤ nZ ∧ (r.toInt = 0 ∨ 0 ≤ fZ ∧ fZ + 3 * r.toInt ≤ sZ)))
set_option maxRecDepth 100000 in
theorem c_Sheet_wholeBoresX_3 (h : Hp) (hI : Inv h) (l : Int32) (lZ : Int) (lE : l.toInt = lZ) (f : Int32) (fZ : Int) (fE : f.toInt = fZ) (n : Int32) (nZ : Int) (nE : n.toInt = nZ) (t : Int32) (tZ : Int) (tE : t.toInt = tZ) (tK : h.1 114 1 = t) (s : Int32) (sZ : Int) (sE : s.toInt = sZ) (sK : h.1 114 2 = s) (hy0 : 0 ≤ nZ ∧ nZ ≤ 13) : Ct y_Sheet_wholeBores b_Sheet_wholeBores 4 (some .int) 1 21 [.ref 114, .int l, .int f, .int n] h (q_Sheet_wholeBoresX_3 h l lZ f fZ n nZ t tZ s sZ) := by
  refine ct_ow R_Sheet [some (.ref 114), some (.int l), some (.int f), some (.int n)] rfl (by decide) rfl (Nat.le_of_ble_eq_true rfl) ?_
  have f0 : fr [] h h := fr_rf
  have g1 : 0 ≤ sZ ∧ sZ ≤ 40 := inv_at hI sE sK.symm rfl
  refine V_aload_n 0 d_Sheet_wholeBores_0 rfl rfl ?_
  refine N_getK fa_Sheet_15 sk_114 rfl d_Sheet_wholeBores_1 tK ?_
  refine V_iload_n 1 d_Sheet_wholeBores_4 rfl rfl ?_
  refine V_icmp_ne 20 tE lE d_Sheet_wholeBores_5 (by decide) (fun c2 => ?_) (fun c2 => ?_)
  ·
    refine V_iconst 0 d_Sheet_wholeBores_20 (by decide) ?_
    exact V_iret rfl d_Sheet_wholeBores_21 ⟨0, rfl, ⟨rfl, ⟨by unfold whl; rw [if_pos (by (first | decide +kernel | omega))]; rfl, by (try rw [show Int32.toInt 0 = 0 from rfl]) <;> omega⟩⟩⟩
  ·
    refine V_iload_n 2 d_Sheet_wholeBores_8 rfl rfl ?_
    refine V_if_lt 20 fE d_Sheet_wholeBores_9 (by decide) (fun c3 => ?_) (fun c3 => ?_)
    ·
      refine V_iconst 0 d_Sheet_wholeBores_20 (by decide) ?_
      exact V_iret rfl d_Sheet_wholeBores_21 ⟨0, rfl, ⟨rfl, ⟨by unfold whl; rw [if_pos (by (first | decide +kernel | omega))]; rfl, by (try rw [show Int32.toInt 0 = 0 from rfl]) <;> omega⟩⟩⟩
    ·
      refine V_iload_n 2 d_Sheet_wholeBores_12 rfl rfl ?_
      refine V_aload_n 0 d_Sheet_wholeBores_13 rfl rfl ?_
      refine N_getK fa_Sheet_25 sk_114 rfl d_Sheet_wholeBores_14 sK ?_
      refine V_icmp_lt 22 fE sE d_Sheet_wholeBores_17 (by decide) (fun c4 => ?_) (fun c4 => ?_)
      ·
        refine V_iload_n 3 d_Sheet_wholeBores_22 rfl rfl ?_
        refine V_aload_n 0 d_Sheet_wholeBores_23 rfl rfl ?_
        refine N_getK fa_Sheet_25 sk_114 rfl d_Sheet_wholeBores_24 sK ?_
        refine V_iload_n 2 d_Sheet_wholeBores_27 rfl rfl ?_
        refine V_isub sE fE (by (first | decide +kernel | omega)) d_Sheet_wholeBores_28 (fun z5 z5e z5E => ?_)
        refine V_iconst 3 d_Sheet_wholeBores_29 (by decide) ?_
        refine N_idiv z5E tc_3 (by (first | decide +kernel | omega)) d_Sheet_wholeBores_30 (fun z6 z6e z6E => ?_)
        refine N_min nE z6E wm_Sheet_28 d_Sheet_wholeBores_31 (Nat.le_of_ble_eq_true rfl) (by decide) wmin1 wM2 wmin3 (fun z7 z7Z z7E z7e z7g => ?_)
        exact V_iret rfl d_Sheet_wholeBores_34 ⟨z7, rfl, ⟨rfl, ⟨by rw [z7E]; unfold whl; rw [if_neg (by (first | decide +kernel | omega))]; split <;> omega, by rw [z7E]; omega⟩⟩⟩
      ·
        refine V_iconst 0 d_Sheet_wholeBores_20 (by decide) ?_
        exact V_iret rfl d_Sheet_wholeBores_21 ⟨0, rfl, ⟨rfl, ⟨by unfold whl; rw [if_pos (by (first | decide +kernel | omega))]; rfl, by (try rw [show Int32.toInt 0 = 0 from rfl]) <;> omega⟩⟩⟩
def S_Rod_readZ : List (Nat × Option Nat) := [(0, some 3), (0, some 4), (1, none), (2, none), (3, none), (4, none), (5, none), (6, none), (7, some 4), (8, none), (9, none), (10, none), (11, none), (12, some 4), (13, none), (14, none), (15, none), (16, none), (17, some 3), (17, some 4), (18, none), (19, none), (20, none), (21, none), (22, none), (23, none), (24, some 4), (25, none), (26, none), (27, none), (28, none), (29, some 4), (30, none), (31, none), (32, none), (33, none), (85, some 10)]
abbrev q_Rod_readZ (h : Hp) (k : Int32) (kZ : Int) (l : Int32) (lZ : Int) (f : Int32) (fZ : Int) (n : Int32) (nZ : Int) (w : Int32) (wZ : Int) (g : Int32) (gZ : Int) (x : Int32) (xZ : Int) (y : Int32) (yZ : Int) (t0 : Int32) (t0Z : Int) (t1 : Int32) (t1Z : Int) (t2 : Int32) (t2Z : Int) (t3 : Int32) (t3Z : Int) (s0 : Int32) (s0Z : Int) (s1 : Int32) (s1Z : Int) (s2 : Int32) (s2Z : Int) (s3 : Int32) (s3Z : Int) : Option Value → Hp → Prop := pInt (fun r h' => Inv h' ∧ fr S_Rod_readZ h h' ∧ ((kZ < 0 ∨ 3 < kZ ∨ lZ < 0 ∨ 2 < lZ ∨ nZ < 0 ∨ 13 < nZ) ∧ h' = h ∧ r.toInt = -1 ∨ ¬ (kZ < 0 ∨ 3 < kZ ∨ lZ < 0 ∨ 2 < lZ ∨ nZ < 0 ∨ 13 < nZ) ∧ RDc h h' kZ.toNat lZ fZ nZ (wZ * gZ) r))
set_option maxRecDepth 100000 in
theorem c_Rod_readZ (h : Hp) (hI : Inv h) (k : Int32) (kZ : Int) (kE : k.toInt = kZ) (l : Int32) (lZ : Int) (lE : l.toInt = lZ) (f : Int32) (fZ : Int) (fE : f.toInt = fZ) (n : Int32) (nZ : Int) (nE : n.toInt = nZ) (w : Int32) (wZ : Int) (wE : w.toInt = wZ) (wK : h.1 1 0 = w) (g : Int32) (gZ : Int) (gE : g.toInt = gZ) (gK : h.1 1 1 = g) (x : Int32) (xZ : Int) (xE : x.toInt = xZ) (xK : h.1 1 2 = x) (y : Int32) (yZ : Int) (yE : y.toInt = yZ) (yK : h.1 1 3 = y) (t0 : Int32) (t0Z : Int) (t0E : t0.toInt = t0Z) (t0K : h.1 108 1 = t0) (t1 : Int32) (t1Z : Int) (t1E : t1.toInt = t1Z) (t1K : h.1 110 1 = t1) (t2 : Int32) (t2Z : Int) (t2E : t2.toInt = t2Z) (t2K : h.1 112 1 = t2) (t3 : Int32) (t3Z : Int) (t3E : t3.toInt = t3Z) (t3K : h.1 114 1 = t3) (s0 : Int32) (s0Z : Int) (s0E : s0.toInt = s0Z) (s0K : h.1 108 2 = s0) (s1 : Int32) (s1Z : Int) (s1E : s1.toInt = s1Z) (s1K : h.1 110 2 = s1) (s2 : Int32) (s2Z : Int) (s2E : s2.toInt = s2Z) (s2K : h.1 112 2 = s2) (s3 : Int32) (s3Z : Int) (s3E : s3.toInt = s3Z) (s3K : h.1 114 2 = s3) : Ct y_Rod_read b_Rod_read 9 (some .int) 3 102 [.ref 85, .int k, .int l, .int f, .int n] h (q_Rod_readZ h k kZ l lZ f fZ n nZ w wZ g gZ x xZ y yZ t0 t0Z t1 t1Z t2 t2Z t3 t3Z s0 s0Z s1 s1Z s2 s2Z s3 s3Z) := by
  refine ct_ow R_Rod [some (.ref 85), some (.int k), some (.int l), some (.int f), some (.int n), none, none, none, none] rfl (by decide) rfl (Nat.le_of_ble_eq_true rfl) ?_
  have f0 : fr S_Rod_readZ h h := fr_rf
  have g1 : 2 ≤ wZ ∧ wZ ≤ 4 := inv_at hI wE wK.symm rfl
  have g2 : 2 ≤ gZ ∧ gZ ≤ 4 := inv_at hI gE gK.symm rfl
  have g3 : 0 ≤ s0Z ∧ s0Z ≤ 40 := inv_at hI s0E s0K.symm rfl
  have g4 : 0 ≤ s1Z ∧ s1Z ≤ 40 := inv_at hI s1E s1K.symm rfl
  have g5 : 0 ≤ s2Z ∧ s2Z ≤ 40 := inv_at hI s2E s2K.symm rfl
  have g6 : 0 ≤ s3Z ∧ s3Z ≤ 40 := inv_at hI s3E s3K.symm rfl
  have m24 := mul24 (A := wZ) (B := gZ) (by (first | decide +kernel | omega)) (by (first | decide +kernel | omega))
  refine V_iload_n 1 d_Rod_read_0 rfl rfl ?_
  refine N_callSI [.int k] [] cs_Rod_283 d_Rod_read_1 rfl (Nat.le_of_ble_eq_true rfl) (by decide) (by decide) (c_Rod_isSheet h k kZ kE) (fun z7 h8 z7Z z7E p9 => ?_)
  obtain ⟨eh8, p9⟩ := p9
  subst eh8
  refine V_if_eq 26 z7E d_Rod_read_4 (by decide) (fun c10 => ?_) (fun c10 => ?_)
  ·
    refine V_iconst (-1) d_Rod_read_26 (by decide) ?_
    exact V_iret rfl d_Rod_read_27 ⟨(-1), rfl, ⟨hI, f0, (Or.inl ⟨by (first | decide +kernel | omega), rfl, tc_m1⟩)⟩⟩
  ·
    refine V_iload_n 2 d_Rod_read_7 rfl rfl ?_
    refine N_callSI [.int l] [] cs_Rod_286 d_Rod_read_8 rfl (Nat.le_of_ble_eq_true rfl) (by decide) (by decide) (c_Rod_isLane h l lZ lE) (fun z11 h12 z11Z z11E p13 => ?_)
    obtain ⟨eh12, p13⟩ := p13
    subst eh12
    refine V_if_eq 26 z11E d_Rod_read_11 (by decide) (fun c14 => ?_) (fun c14 => ?_)
    ·
      refine V_iconst (-1) d_Rod_read_26 (by decide) ?_
      exact V_iret rfl d_Rod_read_27 ⟨(-1), rfl, ⟨hI, f0, (Or.inl ⟨by (first | decide +kernel | omega), rfl, tc_m1⟩)⟩⟩
    ·
      refine V_iload d_Rod_read_14 rfl ?_
      refine V_if_lt 26 nE d_Rod_read_16 (by decide) (fun c15 => ?_) (fun c15 => ?_)
      ·
        refine V_iconst (-1) d_Rod_read_26 (by decide) ?_
        exact V_iret rfl d_Rod_read_27 ⟨(-1), rfl, ⟨hI, f0, (Or.inl ⟨by (first | decide +kernel | omega), rfl, tc_m1⟩)⟩⟩
      ·
        refine V_iload d_Rod_read_19 rfl ?_
        refine V_bipush 13 d_Rod_read_21 (by decide) ?_
        refine V_icmp_le 28 nE tc_13 d_Rod_read_23 (by decide) (fun c16 => ?_) (fun c16 => ?_)
        ·
          refine V_aload_n 0 d_Rod_read_28 rfl rfl ?_
          refine V_getR fa_Rod_62 sk_85 rfl d_Rod_read_29 ?_
          refine V_iload_n 1 d_Rod_read_32 rfl rfl ?_
          rcases (by (first | decide +kernel | omega) : kZ = 0 ∨ kZ = 1 ∨ kZ = 2 ∨ kZ = 3) with c17 | c17 | c17 | c17
          ·
            refine V_aald (r := 108) sk_107 (by decide) kE (by (first | decide +kernel | omega)) (by rw [c17]; rfl) d_Rod_read_33 ?_
            refine V_astore 5 [some (.ref 85), some (.int k), some (.int l), some (.int f), some (.int n), some (.ref 108), none, none, none] d_Rod_read_34 (by decide) rfl rfl ?_
            refine V_aload d_Rod_read_36 rfl ?_
            refine V_iload_n 2 d_Rod_read_38 rfl rfl ?_
            refine V_iload_n 3 d_Rod_read_39 rfl rfl ?_
            refine V_iload d_Rod_read_40 rfl ?_
            refine N_callVI [.int l, .int f, .int n] [] cv_Rod_300 sk_108 rfl d_Rod_read_42 rfl (Nat.le_of_ble_eq_true rfl) (by decide) (by decide) (c_Sheet_wholeBoresX_0 h hI l lZ lE f fZ fE n nZ nE t0 t0Z t0E t0K s0 s0Z s0E s0K (by (first | decide +kernel | omega))) (fun z18 h19 z18Z z18E p20 => ?_)
            obtain ⟨eh19, p20⟩ := p20
            subst eh19
            refine V_istore 6 [some (.ref 85), some (.int k), some (.int l), some (.int f), some (.int n), some (.ref 108), some (.int z18), none, none] d_Rod_read_45 (by decide) rfl rfl ?_
            refine V_aload_n 0 d_Rod_read_47 rfl rfl ?_
            refine V_getR fa_Rod_16 sk_85 rfl d_Rod_read_48 ?_
            refine V_aload_n 0 d_Rod_read_51 rfl rfl ?_
            refine V_getR fa_Rod_12 sk_85 rfl d_Rod_read_52 ?_
            obtain ⟨z21, z21Z, z21E, z21e⟩ : ∃ (y : Int32) (Y : Int), y.toInt = Y ∧ y = h.1 0 3 := ⟨_, _, rfl, rfl⟩
            obtain ⟨z22, z22Z, z22E, z22e⟩ : ∃ (y : Int32) (Y : Int), y.toInt = Y ∧ y = h.1 0 4 := ⟨_, _, rfl, rfl⟩
            refine N_callVV [.ref 0] [] cv_Rod_84 sk_17 rfl d_Rod_read_55 rfl (Nat.le_of_ble_eq_true rfl) (by decide) (by decide) (c_County_copyX_1_0 h hI z21 z21Z z21E z21e.symm z22 z22Z z22E z22e.symm) (fun h24 p25 => ?_)
            obtain ⟨hI26, fh24, p25⟩ := p25
            have f27 : fr S_Rod_readZ h h24 := fr_call f0 fh24 rfl
            have P28 : sp3 h h24 := sp3_of p25 fh24 rfl
            refine V_iconst 0 d_Rod_read_58 (by decide) ?_
            refine V_istore 7 [some (.ref 85), some (.int k), some (.int l), some (.int f), some (.int n), some (.ref 108), some (.int z18), some (.int 0), none] d_Rod_read_59 (by decide) rfl rfl ?_
            have L29 : ∀ (nn : Nat) (v31 : Int32) (v31Z : Int) (h32 : Hp), v31.toInt = v31Z → Inv h32 → fr S_Rod_readZ h h32 → h32.1 1 0 = w → h32.1 1 1 = g → h32.1 1 2 = x → h32.1 1 3 = y → 0 ≤ v31Z ∧ v31Z ≤ z18Z → sp3 h h32 → RN (h.1 5) (h.1 2) (h.1 1 2) (h.1 1 3) (wZ * gZ) (h.1 109) fZ.toNat (h.1 8) (h.1 6) v31Z.toNat (h32.1 8) (h32.1 6) → z18Z - v31Z < (nn : Int) → V R_Rod b_Rod_read 9 (some .int) 3 102 (q_Rod_readZ h k kZ l lZ f fZ n nZ w wZ g gZ x xZ y yZ t0 t0Z t1 t1Z t2 t2Z t3 t3Z s0 s0Z s1 s1Z s2 s2Z s3 s3Z) h32 61 [some (.ref 85), some (.int k), some (.int l), some (.int f), some (.int n), some (.ref 108), some (.int z18), some (.int v31), none] [] := by
              intro nn
              induction nn with
              | zero => intro v31 v31Z h32 v31E Ih32 Fh32 K33 K34 K35 K36 q37 q38 q39 hm40; exact absurd hm40 (by (first | decide +kernel | omega))
              | succ nn ihL29 =>
                intro v31 v31Z h32 v31E Ih32 Fh32 K33 K34 K35 K36 q37 q38 q39 hm40
                have sp9 : sp3 h h32 := by assumption
                have rn9 : RN (h.1 5) (h.1 2) (h.1 1 2) (h.1 1 3) (wZ * gZ) (h.1 109) fZ.toNat (h.1 8) (h.1 6) v31Z.toNat (h32.1 8) (h32.1 6) := by assumption
                refine V_iload d_Rod_read_61 rfl ?_
                refine V_iload d_Rod_read_63 rfl ?_
                refine V_icmp_ge 137 v31E z18E d_Rod_read_65 (by decide) (fun c41 => ?_) (fun c41 => ?_)
                ·
                  refine V_aload_n 0 d_Rod_read_137 rfl rfl ?_
                  refine V_aload d_Rod_read_138 rfl ?_
                  refine V_iload_n 2 d_Rod_read_140 rfl rfl ?_
                  refine V_iload d_Rod_read_141 rfl ?_
                  refine V_iload d_Rod_read_143 rfl ?_
                  refine N_callVI [.int l, .int n, .int z18] [.ref 85] cv_Rod_306 sk_108 rfl d_Rod_read_145 rfl (Nat.le_of_ble_eq_true rfl) (by decide) (by decide) (c_Sheet_readFault_0 h32 Ih32 l lZ lE n nZ nE z18 z18Z z18E) (fun z42 h43 z42Z z42E p44 => ?_)
                  subst p44
                  refine N_putI fp_Rod_309 sk_85 rfl d_Rod_read_148 (fun h45 eh45 => ?_)
                  have hI46 : Inv h45 := inv_full Ih32 eh45 rfl
                  have f47 : fr S_Rod_readZ h h45 := fr_put Fh32 eh45 rfl
                  have P48 : sp3 h h45 := sp3_put sp9 eh45 (by decide)
                  refine V_iload d_Rod_read_151 rfl ?_
                  exact V_iret rfl d_Rod_read_153 ⟨z18, rfl, ⟨hI46, f47, (Or.inr ⟨by (first | decide +kernel | omega), by rw [show kZ.toNat = 0 by (first | decide +kernel | omega)]; exact RDc_good (m := z18Z.toNat) (show ((z18Z.toNat : Nat) : Int) = whl (h.1 108 1).toInt (h.1 108 2).toInt lZ fZ nZ from by rw [t0K, s0K, t0E, s0E]; omega) (by rw [z18E]; omega) (by rw [eh45, pI_ne (by decide), pI_ne (by decide), show z18Z.toNat = v31Z.toNat by (first | decide +kernel | omega)]; exact rn9) P48⟩)⟩⟩
                ·
                  refine V_iload_n 3 d_Rod_read_68 rfl rfl ?_
                  refine V_iconst 3 d_Rod_read_69 (by decide) ?_
                  refine V_iload d_Rod_read_70 rfl ?_
                  refine V_imul tc_3 v31E (by (first | decide +kernel | omega)) d_Rod_read_72 (fun z49 z49e z49E => ?_)
                  refine V_iadd fE z49E (by (first | decide +kernel | omega)) d_Rod_read_73 (fun z50 z50e z50E => ?_)
                  refine V_istore 8 [some (.ref 85), some (.int k), some (.int l), some (.int f), some (.int n), some (.ref 108), some (.int z18), some (.int v31), some (.int z50)] d_Rod_read_74 (by decide) rfl rfl ?_
                  refine V_aload_n 0 d_Rod_read_76 rfl rfl ?_
                  refine V_getR fa_Rod_12 sk_85 rfl d_Rod_read_77 ?_
                  refine V_aload d_Rod_read_80 rfl ?_
                  refine V_getR fa_Rod_303 sk_108 rfl d_Rod_read_82 ?_
                  refine V_iload d_Rod_read_85 rfl ?_
                  refine N_iald sk_109 z50E (by (first | decide +kernel | omega)) d_Rod_read_87 (fun z51 z51Z z51E z51e => ?_)
                  refine V_aload d_Rod_read_88 rfl ?_
                  refine V_getR fa_Rod_303 sk_108 rfl d_Rod_read_90 ?_
                  refine V_iload d_Rod_read_93 rfl ?_
                  refine V_iconst 1 d_Rod_read_95 (by decide) ?_
                  refine V_iadd z50E tc_1 (by (first | decide +kernel | omega)) d_Rod_read_96 (fun z52 z52e z52E => ?_)
                  refine N_iald sk_109 z52E (by (first | decide +kernel | omega)) d_Rod_read_97 (fun z53 z53Z z53E z53e => ?_)
                  refine V_aload d_Rod_read_98 rfl ?_
                  refine V_getR fa_Rod_303 sk_108 rfl d_Rod_read_100 ?_
                  refine V_iload d_Rod_read_103 rfl ?_
                  refine V_iconst 2 d_Rod_read_105 (by decide) ?_
                  refine V_iadd z50E tc_2 (by (first | decide +kernel | omega)) d_Rod_read_106 (fun z54 z54e z54E => ?_)
                  refine N_iald sk_109 z54E (by (first | decide +kernel | omega)) d_Rod_read_107 (fun z55 z55Z z55E z55e => ?_)
                  refine N_callVI [.int z51, .int z53, .int z55] [] cv_Rod_227 sk_0 rfl d_Rod_read_108 rfl (Nat.le_of_ble_eq_true rfl) (by decide) (by decide) (c_County_boreByX_0 h32 Ih32 z51 z51Z z51E z53 z53Z z53E z55 z55Z z55E w wZ wE K33 g gZ gE K34 x xZ xE K35 y yZ yE K36) (fun z56 h57 z56Z z56E p58 => ?_)
                  obtain ⟨hI59, fh57, p58⟩ := p58
                  have f60 : fr S_Rod_readZ h h57 := fr_call Fh32 fh57 rfl
                  have P61 : sp3 h h57 := sp3_fr sp9 fh57 rfl
                  have hB := RN_c (h := h) (row := 109) (f := fZ.toNat) (n := v31Z.toNat) (W := wZ * gZ) (by (first | decide +kernel | omega)) rn9 sp9 z51E z53E z55E p58 (by rw [z51e, Fh32.1 109 _ rfl]; exact congrArg (h.1 109) (by (first | decide +kernel | omega))) (by rw [z53e, Fh32.1 109 _ rfl]; exact congrArg (h.1 109) (by (first | decide +kernel | omega))) (by rw [z55e, Fh32.1 109 _ rfl]; exact congrArg (h.1 109) (by (first | decide +kernel | omega)))
                  refine V_if_ge 131 z56E d_Rod_read_111 (by decide) (fun c62 => ?_) (fun c62 => ?_)
                  ·
                    have hb9 := (hB.resolve_left (fun q => absurd q.1 (by (first | decide +kernel | omega)))).2
                    obtain ⟨z63, z63E, z63e⟩ : ∃ y : Int32, y.toInt = v31Z + 1 ∧ y = v31 + Int32.ofInt 1 := ⟨_, ti_add v31E (by decide) (by (first | decide +kernel | omega)), rfl⟩
                    refine V_iinc 7 [some (.ref 85), some (.int k), some (.int l), some (.int f), some (.int n), some (.ref 108), some (.int z18), some (.int z63), some (.int z50)] d_Rod_read_131 rfl z63e.symm (by decide) rfl rfl ?_
                    refine V_goto 61 d_Rod_read_134 (by decide) ?_
                    refine V_drop 8 [some (.ref 85), some (.int k), some (.int l), some (.int f), some (.int n), some (.ref 108), some (.int z18), some (.int z63), none] rfl ?_
                    exact ihL29 z63 ((v31Z + 1)) h57 z63E hI59 f60 (kn_call fh57 K33 rfl) (kn_call fh57 K34 rfl) (kn_call fh57 K35 rfl) (kn_call fh57 K36 rfl) (by (first | decide +kernel | omega)) P61 (by rw [show ((v31Z + 1)).toNat = (v31Z).toNat + 1 by (first | decide +kernel | omega)]; exact hb9) (by (first | decide +kernel | omega))
                  ·
                    obtain ⟨hb0, hb1, hb2⟩ := hB.resolve_right (fun q => absurd q.1 (by (first | decide +kernel | omega)))
                    refine V_aload_n 0 d_Rod_read_114 rfl rfl ?_
                    refine V_getR fa_Rod_12 sk_85 rfl d_Rod_read_115 ?_
                    refine V_aload_n 0 d_Rod_read_118 rfl rfl ?_
                    refine V_getR fa_Rod_16 sk_85 rfl d_Rod_read_119 ?_
                    obtain ⟨z64, z64Z, z64E, z64e⟩ : ∃ (y : Int32) (Y : Int), y.toInt = Y ∧ y = h57.1 17 3 := ⟨_, _, rfl, rfl⟩
                    obtain ⟨z65, z65Z, z65E, z65e⟩ : ∃ (y : Int32) (Y : Int), y.toInt = Y ∧ y = h57.1 17 4 := ⟨_, _, rfl, rfl⟩
                    refine N_callVV [.ref 17] [] cv_Rod_84 sk_0 rfl d_Rod_read_122 rfl (Nat.le_of_ble_eq_true rfl) (by decide) (by decide) (c_County_copyX_0_1 h57 hI59 z64 z64Z z64E z64e.symm z65 z65Z z65E z65e.symm) (fun h67 p68 => ?_)
                    obtain ⟨hI69, fh67, p68⟩ := p68
                    have f70 : fr S_Rod_readZ h h67 := fr_call f60 fh67 rfl
                    have P71 : cF h h67 := sp3_back P61 p68
                    refine V_bipush (-20) d_Rod_read_125 (by decide) ?_
                    refine V_iload d_Rod_read_127 rfl ?_
                    refine V_isub tc_m20 v31E (by (first | decide +kernel | omega)) d_Rod_read_129 (fun z72 z72e z72E => ?_)
                    exact V_iret rfl d_Rod_read_130 ⟨z72, rfl, ⟨hI69, f70, (Or.inr ⟨by (first | decide +kernel | omega), by rw [show kZ.toNat = 0 by (first | decide +kernel | omega)]; exact RDc_bad (m := z18Z.toNat) (n := v31Z.toNat) (show ((z18Z.toNat : Nat) : Int) = whl (h.1 108 1).toInt (h.1 108 2).toInt lZ fZ nZ from by rw [t0K, s0K, t0E, s0E]; omega) (by (first | decide +kernel | omega)) (by rw [z72E]; omega) rn9 hb2 P71⟩)⟩⟩
            exact L29 (Int.toNat ((z18Z - 0 : Int) + 1)) 0 0 h24 tc_0 hI26 f27 (kn_call fh24 wK rfl) (kn_call fh24 gK rfl) (kn_call fh24 xK rfl) (kn_call fh24 yK rfl) (by (first | decide +kernel | omega)) P28 (RN_0 (fun k i hk => fh24.1 k i (ckS_no (lo := 0) (hi := 16) rfl (by (first | decide +kernel | omega)) hk))) (by (first | decide +kernel | omega))
          ·
            refine V_aald (r := 110) sk_107 (by decide) kE (by (first | decide +kernel | omega)) (by rw [c17]; rfl) d_Rod_read_33 ?_
            refine V_astore 5 [some (.ref 85), some (.int k), some (.int l), some (.int f), some (.int n), some (.ref 110), none, none, none] d_Rod_read_34 (by decide) rfl rfl ?_
            refine V_aload d_Rod_read_36 rfl ?_
            refine V_iload_n 2 d_Rod_read_38 rfl rfl ?_
            refine V_iload_n 3 d_Rod_read_39 rfl rfl ?_
            refine V_iload d_Rod_read_40 rfl ?_
            refine N_callVI [.int l, .int f, .int n] [] cv_Rod_300 sk_110 rfl d_Rod_read_42 rfl (Nat.le_of_ble_eq_true rfl) (by decide) (by decide) (c_Sheet_wholeBoresX_1 h hI l lZ lE f fZ fE n nZ nE t1 t1Z t1E t1K s1 s1Z s1E s1K (by (first | decide +kernel | omega))) (fun z73 h74 z73Z z73E p75 => ?_)
            obtain ⟨eh74, p75⟩ := p75
            subst eh74
            refine V_istore 6 [some (.ref 85), some (.int k), some (.int l), some (.int f), some (.int n), some (.ref 110), some (.int z73), none, none] d_Rod_read_45 (by decide) rfl rfl ?_
            refine V_aload_n 0 d_Rod_read_47 rfl rfl ?_
            refine V_getR fa_Rod_16 sk_85 rfl d_Rod_read_48 ?_
            refine V_aload_n 0 d_Rod_read_51 rfl rfl ?_
            refine V_getR fa_Rod_12 sk_85 rfl d_Rod_read_52 ?_
            obtain ⟨z76, z76Z, z76E, z76e⟩ : ∃ (y : Int32) (Y : Int), y.toInt = Y ∧ y = h.1 0 3 := ⟨_, _, rfl, rfl⟩
            obtain ⟨z77, z77Z, z77E, z77e⟩ : ∃ (y : Int32) (Y : Int), y.toInt = Y ∧ y = h.1 0 4 := ⟨_, _, rfl, rfl⟩
            refine N_callVV [.ref 0] [] cv_Rod_84 sk_17 rfl d_Rod_read_55 rfl (Nat.le_of_ble_eq_true rfl) (by decide) (by decide) (c_County_copyX_1_0 h hI z76 z76Z z76E z76e.symm z77 z77Z z77E z77e.symm) (fun h79 p80 => ?_)
            obtain ⟨hI81, fh79, p80⟩ := p80
            have f82 : fr S_Rod_readZ h h79 := fr_call f0 fh79 rfl
            have P83 : sp3 h h79 := sp3_of p80 fh79 rfl
            refine V_iconst 0 d_Rod_read_58 (by decide) ?_
            refine V_istore 7 [some (.ref 85), some (.int k), some (.int l), some (.int f), some (.int n), some (.ref 110), some (.int z73), some (.int 0), none] d_Rod_read_59 (by decide) rfl rfl ?_
            have L84 : ∀ (nn : Nat) (v86 : Int32) (v86Z : Int) (h87 : Hp), v86.toInt = v86Z → Inv h87 → fr S_Rod_readZ h h87 → h87.1 1 0 = w → h87.1 1 1 = g → h87.1 1 2 = x → h87.1 1 3 = y → 0 ≤ v86Z ∧ v86Z ≤ z73Z → sp3 h h87 → RN (h.1 5) (h.1 2) (h.1 1 2) (h.1 1 3) (wZ * gZ) (h.1 111) fZ.toNat (h.1 8) (h.1 6) v86Z.toNat (h87.1 8) (h87.1 6) → z73Z - v86Z < (nn : Int) → V R_Rod b_Rod_read 9 (some .int) 3 102 (q_Rod_readZ h k kZ l lZ f fZ n nZ w wZ g gZ x xZ y yZ t0 t0Z t1 t1Z t2 t2Z t3 t3Z s0 s0Z s1 s1Z s2 s2Z s3 s3Z) h87 61 [some (.ref 85), some (.int k), some (.int l), some (.int f), some (.int n), some (.ref 110), some (.int z73), some (.int v86), none] [] := by
              intro nn
              induction nn with
              | zero => intro v86 v86Z h87 v86E Ih87 Fh87 K88 K89 K90 K91 q92 q93 q94 hm95; exact absurd hm95 (by (first | decide +kernel | omega))
              | succ nn ihL84 =>
                intro v86 v86Z h87 v86E Ih87 Fh87 K88 K89 K90 K91 q92 q93 q94 hm95
                have sp9 : sp3 h h87 := by assumption
                have rn9 : RN (h.1 5) (h.1 2) (h.1 1 2) (h.1 1 3) (wZ * gZ) (h.1 111) fZ.toNat (h.1 8) (h.1 6) v86Z.toNat (h87.1 8) (h87.1 6) := by assumption
                refine V_iload d_Rod_read_61 rfl ?_
                refine V_iload d_Rod_read_63 rfl ?_
                refine V_icmp_ge 137 v86E z73E d_Rod_read_65 (by decide) (fun c96 => ?_) (fun c96 => ?_)
                ·
                  refine V_aload_n 0 d_Rod_read_137 rfl rfl ?_
                  refine V_aload d_Rod_read_138 rfl ?_
                  refine V_iload_n 2 d_Rod_read_140 rfl rfl ?_
                  refine V_iload d_Rod_read_141 rfl ?_
                  refine V_iload d_Rod_read_143 rfl ?_
                  refine N_callVI [.int l, .int n, .int z73] [.ref 85] cv_Rod_306 sk_110 rfl d_Rod_read_145 rfl (Nat.le_of_ble_eq_true rfl) (by decide) (by decide) (c_Sheet_readFault_1 h87 Ih87 l lZ lE n nZ nE z73 z73Z z73E) (fun z97 h98 z97Z z97E p99 => ?_)
                  subst p99
                  refine N_putI fp_Rod_309 sk_85 rfl d_Rod_read_148 (fun h100 eh100 => ?_)
                  have hI101 : Inv h100 := inv_full Ih87 eh100 rfl
                  have f102 : fr S_Rod_readZ h h100 := fr_put Fh87 eh100 rfl
                  have P103 : sp3 h h100 := sp3_put sp9 eh100 (by decide)
                  refine V_iload d_Rod_read_151 rfl ?_
                  exact V_iret rfl d_Rod_read_153 ⟨z73, rfl, ⟨hI101, f102, (Or.inr ⟨by (first | decide +kernel | omega), by rw [show kZ.toNat = 1 by (first | decide +kernel | omega)]; exact RDc_good (m := z73Z.toNat) (show ((z73Z.toNat : Nat) : Int) = whl (h.1 110 1).toInt (h.1 110 2).toInt lZ fZ nZ from by rw [t1K, s1K, t1E, s1E]; omega) (by rw [z73E]; omega) (by rw [eh100, pI_ne (by decide), pI_ne (by decide), show z73Z.toNat = v86Z.toNat by (first | decide +kernel | omega)]; exact rn9) P103⟩)⟩⟩
                ·
                  refine V_iload_n 3 d_Rod_read_68 rfl rfl ?_
                  refine V_iconst 3 d_Rod_read_69 (by decide) ?_
                  refine V_iload d_Rod_read_70 rfl ?_
                  refine V_imul tc_3 v86E (by (first | decide +kernel | omega)) d_Rod_read_72 (fun z104 z104e z104E => ?_)
                  refine V_iadd fE z104E (by (first | decide +kernel | omega)) d_Rod_read_73 (fun z105 z105e z105E => ?_)
                  refine V_istore 8 [some (.ref 85), some (.int k), some (.int l), some (.int f), some (.int n), some (.ref 110), some (.int z73), some (.int v86), some (.int z105)] d_Rod_read_74 (by decide) rfl rfl ?_
                  refine V_aload_n 0 d_Rod_read_76 rfl rfl ?_
                  refine V_getR fa_Rod_12 sk_85 rfl d_Rod_read_77 ?_
                  refine V_aload d_Rod_read_80 rfl ?_
                  refine V_getR fa_Rod_303 sk_110 rfl d_Rod_read_82 ?_
                  refine V_iload d_Rod_read_85 rfl ?_
                  refine N_iald sk_111 z105E (by (first | decide +kernel | omega)) d_Rod_read_87 (fun z106 z106Z z106E z106e => ?_)
                  refine V_aload d_Rod_read_88 rfl ?_
                  refine V_getR fa_Rod_303 sk_110 rfl d_Rod_read_90 ?_
                  refine V_iload d_Rod_read_93 rfl ?_
                  refine V_iconst 1 d_Rod_read_95 (by decide) ?_
                  refine V_iadd z105E tc_1 (by (first | decide +kernel | omega)) d_Rod_read_96 (fun z107 z107e z107E => ?_)
                  refine N_iald sk_111 z107E (by (first | decide +kernel | omega)) d_Rod_read_97 (fun z108 z108Z z108E z108e => ?_)
                  refine V_aload d_Rod_read_98 rfl ?_
                  refine V_getR fa_Rod_303 sk_110 rfl d_Rod_read_100 ?_
                  refine V_iload d_Rod_read_103 rfl ?_
                  refine V_iconst 2 d_Rod_read_105 (by decide) ?_
                  refine V_iadd z105E tc_2 (by (first | decide +kernel | omega)) d_Rod_read_106 (fun z109 z109e z109E => ?_)
                  refine N_iald sk_111 z109E (by (first | decide +kernel | omega)) d_Rod_read_107 (fun z110 z110Z z110E z110e => ?_)
                  refine N_callVI [.int z106, .int z108, .int z110] [] cv_Rod_227 sk_0 rfl d_Rod_read_108 rfl (Nat.le_of_ble_eq_true rfl) (by decide) (by decide) (c_County_boreByX_0 h87 Ih87 z106 z106Z z106E z108 z108Z z108E z110 z110Z z110E w wZ wE K88 g gZ gE K89 x xZ xE K90 y yZ yE K91) (fun z111 h112 z111Z z111E p113 => ?_)
                  obtain ⟨hI114, fh112, p113⟩ := p113
                  have f115 : fr S_Rod_readZ h h112 := fr_call Fh87 fh112 rfl
                  have P116 : sp3 h h112 := sp3_fr sp9 fh112 rfl
                  have hB := RN_c (h := h) (row := 111) (f := fZ.toNat) (n := v86Z.toNat) (W := wZ * gZ) (by (first | decide +kernel | omega)) rn9 sp9 z106E z108E z110E p113 (by rw [z106e, Fh87.1 111 _ rfl]; exact congrArg (h.1 111) (by (first | decide +kernel | omega))) (by rw [z108e, Fh87.1 111 _ rfl]; exact congrArg (h.1 111) (by (first | decide +kernel | omega))) (by rw [z110e, Fh87.1 111 _ rfl]; exact congrArg (h.1 111) (by (first | decide +kernel | omega)))
                  refine V_if_ge 131 z111E d_Rod_read_111 (by decide) (fun c117 => ?_) (fun c117 => ?_)
                  ·
                    have hb9 := (hB.resolve_left (fun q => absurd q.1 (by (first | decide +kernel | omega)))).2
                    obtain ⟨z118, z118E, z118e⟩ : ∃ y : Int32, y.toInt = v86Z + 1 ∧ y = v86 + Int32.ofInt 1 := ⟨_, ti_add v86E (by decide) (by (first | decide +kernel | omega)), rfl⟩
                    refine V_iinc 7 [some (.ref 85), some (.int k), some (.int l), some (.int f), some (.int n), some (.ref 110), some (.int z73), some (.int z118), some (.int z105)] d_Rod_read_131 rfl z118e.symm (by decide) rfl rfl ?_
                    refine V_goto 61 d_Rod_read_134 (by decide) ?_
                    refine V_drop 8 [some (.ref 85), some (.int k), some (.int l), some (.int f), some (.int n), some (.ref 110), some (.int z73), some (.int z118), none] rfl ?_
                    exact ihL84 z118 ((v86Z + 1)) h112 z118E hI114 f115 (kn_call fh112 K88 rfl) (kn_call fh112 K89 rfl) (kn_call fh112 K90 rfl) (kn_call fh112 K91 rfl) (by (first | decide +kernel | omega)) P116 (by rw [show ((v86Z + 1)).toNat = (v86Z).toNat + 1 by (first | decide +kernel | omega)]; exact hb9) (by (first | decide +kernel | omega))
                  ·
                    obtain ⟨hb0, hb1, hb2⟩ := hB.resolve_right (fun q => absurd q.1 (by (first | decide +kernel | omega)))
                    refine V_aload_n 0 d_Rod_read_114 rfl rfl ?_
                    refine V_getR fa_Rod_12 sk_85 rfl d_Rod_read_115 ?_
                    refine V_aload_n 0 d_Rod_read_118 rfl rfl ?_
                    refine V_getR fa_Rod_16 sk_85 rfl d_Rod_read_119 ?_
                    obtain ⟨z119, z119Z, z119E, z119e⟩ : ∃ (y : Int32) (Y : Int), y.toInt = Y ∧ y = h112.1 17 3 := ⟨_, _, rfl, rfl⟩
                    obtain ⟨z120, z120Z, z120E, z120e⟩ : ∃ (y : Int32) (Y : Int), y.toInt = Y ∧ y = h112.1 17 4 := ⟨_, _, rfl, rfl⟩
                    refine N_callVV [.ref 17] [] cv_Rod_84 sk_0 rfl d_Rod_read_122 rfl (Nat.le_of_ble_eq_true rfl) (by decide) (by decide) (c_County_copyX_0_1 h112 hI114 z119 z119Z z119E z119e.symm z120 z120Z z120E z120e.symm) (fun h122 p123 => ?_)
                    obtain ⟨hI124, fh122, p123⟩ := p123
                    have f125 : fr S_Rod_readZ h h122 := fr_call f115 fh122 rfl
                    have P126 : cF h h122 := sp3_back P116 p123
                    refine V_bipush (-20) d_Rod_read_125 (by decide) ?_
                    refine V_iload d_Rod_read_127 rfl ?_
                    refine V_isub tc_m20 v86E (by (first | decide +kernel | omega)) d_Rod_read_129 (fun z127 z127e z127E => ?_)
                    exact V_iret rfl d_Rod_read_130 ⟨z127, rfl, ⟨hI124, f125, (Or.inr ⟨by (first | decide +kernel | omega), by rw [show kZ.toNat = 1 by (first | decide +kernel | omega)]; exact RDc_bad (m := z73Z.toNat) (n := v86Z.toNat) (show ((z73Z.toNat : Nat) : Int) = whl (h.1 110 1).toInt (h.1 110 2).toInt lZ fZ nZ from by rw [t1K, s1K, t1E, s1E]; omega) (by (first | decide +kernel | omega)) (by rw [z127E]; omega) rn9 hb2 P126⟩)⟩⟩
            exact L84 (Int.toNat ((z73Z - 0 : Int) + 1)) 0 0 h79 tc_0 hI81 f82 (kn_call fh79 wK rfl) (kn_call fh79 gK rfl) (kn_call fh79 xK rfl) (kn_call fh79 yK rfl) (by (first | decide +kernel | omega)) P83 (RN_0 (fun k i hk => fh79.1 k i (ckS_no (lo := 0) (hi := 16) rfl (by (first | decide +kernel | omega)) hk))) (by (first | decide +kernel | omega))
          ·
            refine V_aald (r := 112) sk_107 (by decide) kE (by (first | decide +kernel | omega)) (by rw [c17]; rfl) d_Rod_read_33 ?_
            refine V_astore 5 [some (.ref 85), some (.int k), some (.int l), some (.int f), some (.int n), some (.ref 112), none, none, none] d_Rod_read_34 (by decide) rfl rfl ?_
            refine V_aload d_Rod_read_36 rfl ?_
            refine V_iload_n 2 d_Rod_read_38 rfl rfl ?_
            refine V_iload_n 3 d_Rod_read_39 rfl rfl ?_
            refine V_iload d_Rod_read_40 rfl ?_
            refine N_callVI [.int l, .int f, .int n] [] cv_Rod_300 sk_112 rfl d_Rod_read_42 rfl (Nat.le_of_ble_eq_true rfl) (by decide) (by decide) (c_Sheet_wholeBoresX_2 h hI l lZ lE f fZ fE n nZ nE t2 t2Z t2E t2K s2 s2Z s2E s2K (by (first | decide +kernel | omega))) (fun z128 h129 z128Z z128E p130 => ?_)
            obtain ⟨eh129, p130⟩ := p130
            subst eh129
            refine V_istore 6 [some (.ref 85), some (.int k), some (.int l), some (.int f), some (.int n), some (.ref 112), some (.int z128), none, none] d_Rod_read_45 (by decide) rfl rfl ?_
            refine V_aload_n 0 d_Rod_read_47 rfl rfl ?_
            refine V_getR fa_Rod_16 sk_85 rfl d_Rod_read_48 ?_
            refine V_aload_n 0 d_Rod_read_51 rfl rfl ?_
            refine V_getR fa_Rod_12 sk_85 rfl d_Rod_read_52 ?_
            obtain ⟨z131, z131Z, z131E, z131e⟩ : ∃ (y : Int32) (Y : Int), y.toInt = Y ∧ y = h.1 0 3 := ⟨_, _, rfl, rfl⟩
            obtain ⟨z132, z132Z, z132E, z132e⟩ : ∃ (y : Int32) (Y : Int), y.toInt = Y ∧ y = h.1 0 4 := ⟨_, _, rfl, rfl⟩
            refine N_callVV [.ref 0] [] cv_Rod_84 sk_17 rfl d_Rod_read_55 rfl (Nat.le_of_ble_eq_true rfl) (by decide) (by decide) (c_County_copyX_1_0 h hI z131 z131Z z131E z131e.symm z132 z132Z z132E z132e.symm) (fun h134 p135 => ?_)
            obtain ⟨hI136, fh134, p135⟩ := p135
            have f137 : fr S_Rod_readZ h h134 := fr_call f0 fh134 rfl
            have P138 : sp3 h h134 := sp3_of p135 fh134 rfl
            refine V_iconst 0 d_Rod_read_58 (by decide) ?_
            refine V_istore 7 [some (.ref 85), some (.int k), some (.int l), some (.int f), some (.int n), some (.ref 112), some (.int z128), some (.int 0), none] d_Rod_read_59 (by decide) rfl rfl ?_
            have L139 : ∀ (nn : Nat) (v141 : Int32) (v141Z : Int) (h142 : Hp), v141.toInt = v141Z → Inv h142 → fr S_Rod_readZ h h142 → h142.1 1 0 = w → h142.1 1 1 = g → h142.1 1 2 = x → h142.1 1 3 = y → 0 ≤ v141Z ∧ v141Z ≤ z128Z → sp3 h h142 → RN (h.1 5) (h.1 2) (h.1 1 2) (h.1 1 3) (wZ * gZ) (h.1 113) fZ.toNat (h.1 8) (h.1 6) v141Z.toNat (h142.1 8) (h142.1 6) → z128Z - v141Z < (nn : Int) → V R_Rod b_Rod_read 9 (some .int) 3 102 (q_Rod_readZ h k kZ l lZ f fZ n nZ w wZ g gZ x xZ y yZ t0 t0Z t1 t1Z t2 t2Z t3 t3Z s0 s0Z s1 s1Z s2 s2Z s3 s3Z) h142 61 [some (.ref 85), some (.int k), some (.int l), some (.int f), some (.int n), some (.ref 112), some (.int z128), some (.int v141), none] [] := by
              intro nn
              induction nn with
              | zero => intro v141 v141Z h142 v141E Ih142 Fh142 K143 K144 K145 K146 q147 q148 q149 hm150; exact absurd hm150 (by (first | decide +kernel | omega))
              | succ nn ihL139 =>
                intro v141 v141Z h142 v141E Ih142 Fh142 K143 K144 K145 K146 q147 q148 q149 hm150
                have sp9 : sp3 h h142 := by assumption
                have rn9 : RN (h.1 5) (h.1 2) (h.1 1 2) (h.1 1 3) (wZ * gZ) (h.1 113) fZ.toNat (h.1 8) (h.1 6) v141Z.toNat (h142.1 8) (h142.1 6) := by assumption
                refine V_iload d_Rod_read_61 rfl ?_
                refine V_iload d_Rod_read_63 rfl ?_
                refine V_icmp_ge 137 v141E z128E d_Rod_read_65 (by decide) (fun c151 => ?_) (fun c151 => ?_)
                ·
                  refine V_aload_n 0 d_Rod_read_137 rfl rfl ?_
                  refine V_aload d_Rod_read_138 rfl ?_
                  refine V_iload_n 2 d_Rod_read_140 rfl rfl ?_
                  refine V_iload d_Rod_read_141 rfl ?_
                  refine V_iload d_Rod_read_143 rfl ?_
                  refine N_callVI [.int l, .int n, .int z128] [.ref 85] cv_Rod_306 sk_112 rfl d_Rod_read_145 rfl (Nat.le_of_ble_eq_true rfl) (by decide) (by decide) (c_Sheet_readFault_2 h142 Ih142 l lZ lE n nZ nE z128 z128Z z128E) (fun z152 h153 z152Z z152E p154 => ?_)
                  subst p154
                  refine N_putI fp_Rod_309 sk_85 rfl d_Rod_read_148 (fun h155 eh155 => ?_)
                  have hI156 : Inv h155 := inv_full Ih142 eh155 rfl
                  have f157 : fr S_Rod_readZ h h155 := fr_put Fh142 eh155 rfl
                  have P158 : sp3 h h155 := sp3_put sp9 eh155 (by decide)
                  refine V_iload d_Rod_read_151 rfl ?_
                  exact V_iret rfl d_Rod_read_153 ⟨z128, rfl, ⟨hI156, f157, (Or.inr ⟨by (first | decide +kernel | omega), by rw [show kZ.toNat = 2 by (first | decide +kernel | omega)]; exact RDc_good (m := z128Z.toNat) (show ((z128Z.toNat : Nat) : Int) = whl (h.1 112 1).toInt (h.1 112 2).toInt lZ fZ nZ from by rw [t2K, s2K, t2E, s2E]; omega) (by rw [z128E]; omega) (by rw [eh155, pI_ne (by decide), pI_ne (by decide), show z128Z.toNat = v141Z.toNat by (first | decide +kernel | omega)]; exact rn9) P158⟩)⟩⟩
                ·
                  refine V_iload_n 3 d_Rod_read_68 rfl rfl ?_
                  refine V_iconst 3 d_Rod_read_69 (by decide) ?_
                  refine V_iload d_Rod_read_70 rfl ?_
                  refine V_imul tc_3 v141E (by (first | decide +kernel | omega)) d_Rod_read_72 (fun z159 z159e z159E => ?_)
                  refine V_iadd fE z159E (by (first | decide +kernel | omega)) d_Rod_read_73 (fun z160 z160e z160E => ?_)
                  refine V_istore 8 [some (.ref 85), some (.int k), some (.int l), some (.int f), some (.int n), some (.ref 112), some (.int z128), some (.int v141), some (.int z160)] d_Rod_read_74 (by decide) rfl rfl ?_
                  refine V_aload_n 0 d_Rod_read_76 rfl rfl ?_
                  refine V_getR fa_Rod_12 sk_85 rfl d_Rod_read_77 ?_
                  refine V_aload d_Rod_read_80 rfl ?_
                  refine V_getR fa_Rod_303 sk_112 rfl d_Rod_read_82 ?_
                  refine V_iload d_Rod_read_85 rfl ?_
                  refine N_iald sk_113 z160E (by (first | decide +kernel | omega)) d_Rod_read_87 (fun z161 z161Z z161E z161e => ?_)
                  refine V_aload d_Rod_read_88 rfl ?_
                  refine V_getR fa_Rod_303 sk_112 rfl d_Rod_read_90 ?_
                  refine V_iload d_Rod_read_93 rfl ?_
                  refine V_iconst 1 d_Rod_read_95 (by decide) ?_
                  refine V_iadd z160E tc_1 (by (first | decide +kernel | omega)) d_Rod_read_96 (fun z162 z162e z162E => ?_)
                  refine N_iald sk_113 z162E (by (first | decide +kernel | omega)) d_Rod_read_97 (fun z163 z163Z z163E z163e => ?_)
                  refine V_aload d_Rod_read_98 rfl ?_
                  refine V_getR fa_Rod_303 sk_112 rfl d_Rod_read_100 ?_
                  refine V_iload d_Rod_read_103 rfl ?_
                  refine V_iconst 2 d_Rod_read_105 (by decide) ?_
                  refine V_iadd z160E tc_2 (by (first | decide +kernel | omega)) d_Rod_read_106 (fun z164 z164e z164E => ?_)
                  refine N_iald sk_113 z164E (by (first | decide +kernel | omega)) d_Rod_read_107 (fun z165 z165Z z165E z165e => ?_)
                  refine N_callVI [.int z161, .int z163, .int z165] [] cv_Rod_227 sk_0 rfl d_Rod_read_108 rfl (Nat.le_of_ble_eq_true rfl) (by decide) (by decide) (c_County_boreByX_0 h142 Ih142 z161 z161Z z161E z163 z163Z z163E z165 z165Z z165E w wZ wE K143 g gZ gE K144 x xZ xE K145 y yZ yE K146) (fun z166 h167 z166Z z166E p168 => ?_)
                  obtain ⟨hI169, fh167, p168⟩ := p168
                  have f170 : fr S_Rod_readZ h h167 := fr_call Fh142 fh167 rfl
                  have P171 : sp3 h h167 := sp3_fr sp9 fh167 rfl
                  have hB := RN_c (h := h) (row := 113) (f := fZ.toNat) (n := v141Z.toNat) (W := wZ * gZ) (by (first | decide +kernel | omega)) rn9 sp9 z161E z163E z165E p168 (by rw [z161e, Fh142.1 113 _ rfl]; exact congrArg (h.1 113) (by (first | decide +kernel | omega))) (by rw [z163e, Fh142.1 113 _ rfl]; exact congrArg (h.1 113) (by (first | decide +kernel | omega))) (by rw [z165e, Fh142.1 113 _ rfl]; exact congrArg (h.1 113) (by (first | decide +kernel | omega)))
                  refine V_if_ge 131 z166E d_Rod_read_111 (by decide) (fun c172 => ?_) (fun c172 => ?_)
                  ·
                    have hb9 := (hB.resolve_left (fun q => absurd q.1 (by (first | decide +kernel | omega)))).2
                    obtain ⟨z173, z173E, z173e⟩ : ∃ y : Int32, y.toInt = v141Z + 1 ∧ y = v141 + Int32.ofInt 1 := ⟨_, ti_add v141E (by decide) (by (first | decide +kernel | omega)), rfl⟩
                    refine V_iinc 7 [some (.ref 85), some (.int k), some (.int l), some (.int f), some (.int n), some (.ref 112), some (.int z128), some (.int z173), some (.int z160)] d_Rod_read_131 rfl z173e.symm (by decide) rfl rfl ?_
                    refine V_goto 61 d_Rod_read_134 (by decide) ?_
                    refine V_drop 8 [some (.ref 85), some (.int k), some (.int l), some (.int f), some (.int n), some (.ref 112), some (.int z128), some (.int z173), none] rfl ?_
                    exact ihL139 z173 ((v141Z + 1)) h167 z173E hI169 f170 (kn_call fh167 K143 rfl) (kn_call fh167 K144 rfl) (kn_call fh167 K145 rfl) (kn_call fh167 K146 rfl) (by (first | decide +kernel | omega)) P171 (by rw [show ((v141Z + 1)).toNat = (v141Z).toNat + 1 by (first | decide +kernel | omega)]; exact hb9) (by (first | decide +kernel | omega))
                  ·
                    obtain ⟨hb0, hb1, hb2⟩ := hB.resolve_right (fun q => absurd q.1 (by (first | decide +kernel | omega)))
                    refine V_aload_n 0 d_Rod_read_114 rfl rfl ?_
                    refine V_getR fa_Rod_12 sk_85 rfl d_Rod_read_115 ?_
                    refine V_aload_n 0 d_Rod_read_118 rfl rfl ?_
                    refine V_getR fa_Rod_16 sk_85 rfl d_Rod_read_119 ?_
                    obtain ⟨z174, z174Z, z174E, z174e⟩ : ∃ (y : Int32) (Y : Int), y.toInt = Y ∧ y = h167.1 17 3 := ⟨_, _, rfl, rfl⟩
                    obtain ⟨z175, z175Z, z175E, z175e⟩ : ∃ (y : Int32) (Y : Int), y.toInt = Y ∧ y = h167.1 17 4 := ⟨_, _, rfl, rfl⟩
                    refine N_callVV [.ref 17] [] cv_Rod_84 sk_0 rfl d_Rod_read_122 rfl (Nat.le_of_ble_eq_true rfl) (by decide) (by decide) (c_County_copyX_0_1 h167 hI169 z174 z174Z z174E z174e.symm z175 z175Z z175E z175e.symm) (fun h177 p178 => ?_)
                    obtain ⟨hI179, fh177, p178⟩ := p178
                    have f180 : fr S_Rod_readZ h h177 := fr_call f170 fh177 rfl
                    have P181 : cF h h177 := sp3_back P171 p178
                    refine V_bipush (-20) d_Rod_read_125 (by decide) ?_
                    refine V_iload d_Rod_read_127 rfl ?_
                    refine V_isub tc_m20 v141E (by (first | decide +kernel | omega)) d_Rod_read_129 (fun z182 z182e z182E => ?_)
                    exact V_iret rfl d_Rod_read_130 ⟨z182, rfl, ⟨hI179, f180, (Or.inr ⟨by (first | decide +kernel | omega), by rw [show kZ.toNat = 2 by (first | decide +kernel | omega)]; exact RDc_bad (m := z128Z.toNat) (n := v141Z.toNat) (show ((z128Z.toNat : Nat) : Int) = whl (h.1 112 1).toInt (h.1 112 2).toInt lZ fZ nZ from by rw [t2K, s2K, t2E, s2E]; omega) (by (first | decide +kernel | omega)) (by rw [z182E]; omega) rn9 hb2 P181⟩)⟩⟩
            exact L139 (Int.toNat ((z128Z - 0 : Int) + 1)) 0 0 h134 tc_0 hI136 f137 (kn_call fh134 wK rfl) (kn_call fh134 gK rfl) (kn_call fh134 xK rfl) (kn_call fh134 yK rfl) (by (first | decide +kernel | omega)) P138 (RN_0 (fun k i hk => fh134.1 k i (ckS_no (lo := 0) (hi := 16) rfl (by (first | decide +kernel | omega)) hk))) (by (first | decide +kernel | omega))
          ·
            refine V_aald (r := 114) sk_107 (by decide) kE (by (first | decide +kernel | omega)) (by rw [c17]; rfl) d_Rod_read_33 ?_
            refine V_astore 5 [some (.ref 85), some (.int k), some (.int l), some (.int f), some (.int n), some (.ref 114), none, none, none] d_Rod_read_34 (by decide) rfl rfl ?_
            refine V_aload d_Rod_read_36 rfl ?_
            refine V_iload_n 2 d_Rod_read_38 rfl rfl ?_
            refine V_iload_n 3 d_Rod_read_39 rfl rfl ?_
            refine V_iload d_Rod_read_40 rfl ?_
            refine N_callVI [.int l, .int f, .int n] [] cv_Rod_300 sk_114 rfl d_Rod_read_42 rfl (Nat.le_of_ble_eq_true rfl) (by decide) (by decide) (c_Sheet_wholeBoresX_3 h hI l lZ lE f fZ fE n nZ nE t3 t3Z t3E t3K s3 s3Z s3E s3K (by (first | decide +kernel | omega))) (fun z183 h184 z183Z z183E p185 => ?_)
            obtain ⟨eh184, p185⟩ := p185
            subst eh184
            refine V_istore 6 [some (.ref 85), some (.int k), some (.int l), some (.int f), some (.int n), some (.ref 114), some (.int z183), none, none] d_Rod_read_45 (by decide) rfl rfl ?_
            refine V_aload_n 0 d_Rod_read_47 rfl rfl ?_
            refine V_getR fa_Rod_16 sk_85 rfl d_Rod_read_48 ?_
            refine V_aload_n 0 d_Rod_read_51 rfl rfl ?_
            refine V_getR fa_Rod_12 sk_85 rfl d_Rod_read_52 ?_
            obtain ⟨z186, z186Z, z186E, z186e⟩ : ∃ (y : Int32) (Y : Int), y.toInt = Y ∧ y = h.1 0 3 := ⟨_, _, rfl, rfl⟩
            obtain ⟨z187, z187Z, z187E, z187e⟩ : ∃ (y : Int32) (Y : Int), y.toInt = Y ∧ y = h.1 0 4 := ⟨_, _, rfl, rfl⟩
            refine N_callVV [.ref 0] [] cv_Rod_84 sk_17 rfl d_Rod_read_55 rfl (Nat.le_of_ble_eq_true rfl) (by decide) (by decide) (c_County_copyX_1_0 h hI z186 z186Z z186E z186e.symm z187 z187Z z187E z187e.symm) (fun h189 p190 => ?_)
            obtain ⟨hI191, fh189, p190⟩ := p190
            have f192 : fr S_Rod_readZ h h189 := fr_call f0 fh189 rfl
            have P193 : sp3 h h189 := sp3_of p190 fh189 rfl
            refine V_iconst 0 d_Rod_read_58 (by decide) ?_
            refine V_istore 7 [some (.ref 85), some (.int k), some (.int l), some (.int f), some (.int n), some (.ref 114), some (.int z183), some (.int 0), none] d_Rod_read_59 (by decide) rfl rfl ?_
            have L194 : ∀ (nn : Nat) (v196 : Int32) (v196Z : Int) (h197 : Hp), v196.toInt = v196Z → Inv h197 → fr S_Rod_readZ h h197 → h197.1 1 0 = w → h197.1 1 1 = g → h197.1 1 2 = x → h197.1 1 3 = y → 0 ≤ v196Z ∧ v196Z ≤ z183Z → sp3 h h197 → RN (h.1 5) (h.1 2) (h.1 1 2) (h.1 1 3) (wZ * gZ) (h.1 115) fZ.toNat (h.1 8) (h.1 6) v196Z.toNat (h197.1 8) (h197.1 6) → z183Z - v196Z < (nn : Int) → V R_Rod b_Rod_read 9 (some .int) 3 102 (q_Rod_readZ h k kZ l lZ f fZ n nZ w wZ g gZ x xZ y yZ t0 t0Z t1 t1Z t2 t2Z t3 t3Z s0 s0Z s1 s1Z s2 s2Z s3 s3Z) h197 61 [some (.ref 85), some (.int k), some (.int l), some (.int f), some (.int n), some (.ref 114), some (.int z183), some (.int v196), none] [] := by
              intro nn
              induction nn with
              | zero => intro v196 v196Z h197 v196E Ih197 Fh197 K198 K199 K200 K201 q202 q203 q204 hm205; exact absurd hm205 (by (first | decide +kernel | omega))
              | succ nn ihL194 =>
                intro v196 v196Z h197 v196E Ih197 Fh197 K198 K199 K200 K201 q202 q203 q204 hm205
                have sp9 : sp3 h h197 := by assumption
                have rn9 : RN (h.1 5) (h.1 2) (h.1 1 2) (h.1 1 3) (wZ * gZ) (h.1 115) fZ.toNat (h.1 8) (h.1 6) v196Z.toNat (h197.1 8) (h197.1 6) := by assumption
                refine V_iload d_Rod_read_61 rfl ?_
                refine V_iload d_Rod_read_63 rfl ?_
                refine V_icmp_ge 137 v196E z183E d_Rod_read_65 (by decide) (fun c206 => ?_) (fun c206 => ?_)
                ·
                  refine V_aload_n 0 d_Rod_read_137 rfl rfl ?_
                  refine V_aload d_Rod_read_138 rfl ?_
                  refine V_iload_n 2 d_Rod_read_140 rfl rfl ?_
                  refine V_iload d_Rod_read_141 rfl ?_
                  refine V_iload d_Rod_read_143 rfl ?_
                  refine N_callVI [.int l, .int n, .int z183] [.ref 85] cv_Rod_306 sk_114 rfl d_Rod_read_145 rfl (Nat.le_of_ble_eq_true rfl) (by decide) (by decide) (c_Sheet_readFault_3 h197 Ih197 l lZ lE n nZ nE z183 z183Z z183E) (fun z207 h208 z207Z z207E p209 => ?_)
                  subst p209
                  refine N_putI fp_Rod_309 sk_85 rfl d_Rod_read_148 (fun h210 eh210 => ?_)
                  have hI211 : Inv h210 := inv_full Ih197 eh210 rfl
                  have f212 : fr S_Rod_readZ h h210 := fr_put Fh197 eh210 rfl
                  have P213 : sp3 h h210 := sp3_put sp9 eh210 (by decide)
                  refine V_iload d_Rod_read_151 rfl ?_
                  exact V_iret rfl d_Rod_read_153 ⟨z183, rfl, ⟨hI211, f212, (Or.inr ⟨by (first | decide +kernel | omega), by rw [show kZ.toNat = 3 by (first | decide +kernel | omega)]; exact RDc_good (m := z183Z.toNat) (show ((z183Z.toNat : Nat) : Int) = whl (h.1 114 1).toInt (h.1 114 2).toInt lZ fZ nZ from by rw [t3K, s3K, t3E, s3E]; omega) (by rw [z183E]; omega) (by rw [eh210, pI_ne (by decide), pI_ne (by decide), show z183Z.toNat = v196Z.toNat by (first | decide +kernel | omega)]; exact rn9) P213⟩)⟩⟩
                ·
                  refine V_iload_n 3 d_Rod_read_68 rfl rfl ?_
                  refine V_iconst 3 d_Rod_read_69 (by decide) ?_
                  refine V_iload d_Rod_read_70 rfl ?_
                  refine V_imul tc_3 v196E (by (first | decide +kernel | omega)) d_Rod_read_72 (fun z214 z214e z214E => ?_)
                  refine V_iadd fE z214E (by (first | decide +kernel | omega)) d_Rod_read_73 (fun z215 z215e z215E => ?_)
                  refine V_istore 8 [some (.ref 85), some (.int k), some (.int l), some (.int f), some (.int n), some (.ref 114), some (.int z183), some (.int v196), some (.int z215)] d_Rod_read_74 (by decide) rfl rfl ?_
                  refine V_aload_n 0 d_Rod_read_76 rfl rfl ?_
                  refine V_getR fa_Rod_12 sk_85 rfl d_Rod_read_77 ?_
                  refine V_aload d_Rod_read_80 rfl ?_
                  refine V_getR fa_Rod_303 sk_114 rfl d_Rod_read_82 ?_
                  refine V_iload d_Rod_read_85 rfl ?_
                  refine N_iald sk_115 z215E (by (first | decide +kernel | omega)) d_Rod_read_87 (fun z216 z216Z z216E z216e => ?_)
                  refine V_aload d_Rod_read_88 rfl ?_
                  refine V_getR fa_Rod_303 sk_114 rfl d_Rod_read_90 ?_
                  refine V_iload d_Rod_read_93 rfl ?_
                  refine V_iconst 1 d_Rod_read_95 (by decide) ?_
                  refine V_iadd z215E tc_1 (by (first | decide +kernel | omega)) d_Rod_read_96 (fun z217 z217e z217E => ?_)
                  refine N_iald sk_115 z217E (by (first | decide +kernel | omega)) d_Rod_read_97 (fun z218 z218Z z218E z218e => ?_)
                  refine V_aload d_Rod_read_98 rfl ?_
                  refine V_getR fa_Rod_303 sk_114 rfl d_Rod_read_100 ?_
                  refine V_iload d_Rod_read_103 rfl ?_
                  refine V_iconst 2 d_Rod_read_105 (by decide) ?_
                  refine V_iadd z215E tc_2 (by (first | decide +kernel | omega)) d_Rod_read_106 (fun z219 z219e z219E => ?_)
                  refine N_iald sk_115 z219E (by (first | decide +kernel | omega)) d_Rod_read_107 (fun z220 z220Z z220E z220e => ?_)
                  refine N_callVI [.int z216, .int z218, .int z220] [] cv_Rod_227 sk_0 rfl d_Rod_read_108 rfl (Nat.le_of_ble_eq_true rfl) (by decide) (by decide) (c_County_boreByX_0 h197 Ih197 z216 z216Z z216E z218 z218Z z218E z220 z220Z z220E w wZ wE K198 g gZ gE K199 x xZ xE K200 y yZ yE K201) (fun z221 h222 z221Z z221E p223 => ?_)
                  obtain ⟨hI224, fh222, p223⟩ := p223
                  have f225 : fr S_Rod_readZ h h222 := fr_call Fh197 fh222 rfl
                  have P226 : sp3 h h222 := sp3_fr sp9 fh222 rfl
                  have hB := RN_c (h := h) (row := 115) (f := fZ.toNat) (n := v196Z.toNat) (W := wZ * gZ) (by (first | decide +kernel | omega)) rn9 sp9 z216E z218E z220E p223 (by rw [z216e, Fh197.1 115 _ rfl]; exact congrArg (h.1 115) (by (first | decide +kernel | omega))) (by rw [z218e, Fh197.1 115 _ rfl]; exact congrArg (h.1 115) (by (first | decide +kernel | omega))) (by rw [z220e, Fh197.1 115 _ rfl]; exact congrArg (h.1 115) (by (first | decide +kernel | omega)))
                  refine V_if_ge 131 z221E d_Rod_read_111 (by decide) (fun c227 => ?_) (fun c227 => ?_)
                  ·
                    have hb9 := (hB.resolve_left (fun q => absurd q.1 (by (first | decide +kernel | omega)))).2
                    obtain ⟨z228, z228E, z228e⟩ : ∃ y : Int32, y.toInt = v196Z + 1 ∧ y = v196 + Int32.ofInt 1 := ⟨_, ti_add v196E (by decide) (by (first | decide +kernel | omega)), rfl⟩
                    refine V_iinc 7 [some (.ref 85), some (.int k), some (.int l), some (.int f), some (.int n), some (.ref 114), some (.int z183), some (.int z228), some (.int z215)] d_Rod_read_131 rfl z228e.symm (by decide) rfl rfl ?_
                    refine V_goto 61 d_Rod_read_134 (by decide) ?_
                    refine V_drop 8 [some (.ref 85), some (.int k), some (.int l), some (.int f), some (.int n), some (.ref 114), some (.int z183), some (.int z228), none] rfl ?_
                    exact ihL194 z228 ((v196Z + 1)) h222 z228E hI224 f225 (kn_call fh222 K198 rfl) (kn_call fh222 K199 rfl) (kn_call fh222 K200 rfl) (kn_call fh222 K201 rfl) (by (first | decide +kernel | omega)) P226 (by rw [show ((v196Z + 1)).toNat = (v196Z).toNat + 1 by (first | decide +kernel | omega)]; exact hb9) (by (first | decide +kernel | omega))
                  ·
                    obtain ⟨hb0, hb1, hb2⟩ := hB.resolve_right (fun q => absurd q.1 (by (first | decide +kernel | omega)))
                    refine V_aload_n 0 d_Rod_read_114 rfl rfl ?_
                    refine V_getR fa_Rod_12 sk_85 rfl d_Rod_read_115 ?_
                    refine V_aload_n 0 d_Rod_read_118 rfl rfl ?_
                    refine V_getR fa_Rod_16 sk_85 rfl d_Rod_read_119 ?_
                    obtain ⟨z229, z229Z, z229E, z229e⟩ : ∃ (y : Int32) (Y : Int), y.toInt = Y ∧ y = h222.1 17 3 := ⟨_, _, rfl, rfl⟩
                    obtain ⟨z230, z230Z, z230E, z230e⟩ : ∃ (y : Int32) (Y : Int), y.toInt = Y ∧ y = h222.1 17 4 := ⟨_, _, rfl, rfl⟩
                    refine N_callVV [.ref 17] [] cv_Rod_84 sk_0 rfl d_Rod_read_122 rfl (Nat.le_of_ble_eq_true rfl) (by decide) (by decide) (c_County_copyX_0_1 h222 hI224 z229 z229Z z229E z229e.symm z230 z230Z z230E z230e.symm) (fun h232 p233 => ?_)
                    obtain ⟨hI234, fh232, p233⟩ := p233
                    have f235 : fr S_Rod_readZ h h232 := fr_call f225 fh232 rfl
                    have P236 : cF h h232 := sp3_back P226 p233
                    refine V_bipush (-20) d_Rod_read_125 (by decide) ?_
                    refine V_iload d_Rod_read_127 rfl ?_
                    refine V_isub tc_m20 v196E (by (first | decide +kernel | omega)) d_Rod_read_129 (fun z237 z237e z237E => ?_)
                    exact V_iret rfl d_Rod_read_130 ⟨z237, rfl, ⟨hI234, f235, (Or.inr ⟨by (first | decide +kernel | omega), by rw [show kZ.toNat = 3 by (first | decide +kernel | omega)]; exact RDc_bad (m := z183Z.toNat) (n := v196Z.toNat) (show ((z183Z.toNat : Nat) : Int) = whl (h.1 114 1).toInt (h.1 114 2).toInt lZ fZ nZ from by rw [t3K, s3K, t3E, s3E]; omega) (by (first | decide +kernel | omega)) (by rw [z237E]; omega) rn9 hb2 P236⟩)⟩⟩
            exact L194 (Int.toNat ((z183Z - 0 : Int) + 1)) 0 0 h189 tc_0 hI191 f192 (kn_call fh189 wK rfl) (kn_call fh189 gK rfl) (kn_call fh189 xK rfl) (kn_call fh189 yK rfl) (by (first | decide +kernel | omega)) P193 (RN_0 (fun k i hk => fh189.1 k i (ckS_no (lo := 0) (hi := 16) rfl (by (first | decide +kernel | omega)) hk))) (by (first | decide +kernel | omega))
        ·
          refine V_iconst (-1) d_Rod_read_26 (by decide) ?_
          exact V_iret rfl d_Rod_read_27 ⟨(-1), rfl, ⟨hI, f0, (Or.inl ⟨by (first | decide +kernel | omega), rfl, tc_m1⟩)⟩⟩
end
section
def MRN (h hx : Hp) (k f : Nat) (W : Int) (n : Nat) : Prop := RN (fun i => h.1 117 (48 + i)) (fun i => h.1 117 (0 + i)) (h.1 116 4) (h.1 116 5) W (fun j => h.1 130 (40 * k + j)) f (fun i => h.1 117 (80 + i)) (fun i => h.1 117 (64 + i)) n (fun i => hx.1 117 (80 + i)) (fun i => hx.1 117 (64 + i))
def MSF (h hx : Hp) (k f : Nat) (W : Int) (n : Nat) : Prop := SF1 (fun i => h.1 117 (48 + i)) (fun i => h.1 117 (0 + i)) (h.1 116 4) (h.1 116 5) W (h.1 130 (40 * k + (f + 3 * n))) (h.1 130 (40 * k + (f + 3 * n + 1))) (h.1 130 (40 * k + (f + 3 * n + 2))) (fun i => hx.1 117 (80 + i)) (fun i => hx.1 117 (64 + i))
def nC (h hx : Hp) : Prop := ∀ i : Nat, i < 64 ∨ 84 ≤ i → hx.1 117 i = h.1 117 i
def ah (h hx : Hp) (n : Int) : Prop := ∀ j : Nat, (j : Int) < n → hx.1 131 j = h.1 117 (64 + j)
def s7 (h hx : Hp) : Prop := ∀ i : Nat, hx.1 117 i = h.1 117 i
theorem ah_0 {h hx : Hp} : ah h hx 0 := fun j hj => by (first | decide +kernel | omega)
theorem s7_rf {h : Hp} : s7 h h := fun _ => rfl
theorem s7_put {h h1 h2 : Hp} {k i : Nat} {x : Int32} (r : s7 h h1) (e : h2 = pI h1 k i x) (hk : k ≠ 117) : s7 h h2 := fun j => by rw [e, pI_at, if_neg (by (first | decide +kernel | omega))]; exact r j
theorem ah_s {h h1 h2 : Hp} {n : Int} {y : Int32} (r : ah h h1 n) (s : s7 h h1) (hn : 0 ≤ n) (e : h2 = pI h1 131 n.toNat y) (ye : y = h1.1 117 (64 + n).toNat) : ah h h2 (n + 1) := fun j hj => by
  rw [e, pI_at]
  by_cases q : j = n.toNat
  · rw [if_pos ⟨rfl, q⟩, ye, s, show (64 + n).toNat = 64 + j by (first | decide +kernel | omega)]
  · rw [if_neg (by (first | decide +kernel | omega))]; exact r j (by (first | decide +kernel | omega))
theorem ah_fr {S : List (Nat × Option Nat)} {h h1 h2 : Hp} {n : Int} (f : fr S h1 h2) (c : ckS S 131 131 = true) (r : ah h h1 n) : ah h h2 n := fun j hj => by rw [f.1 _ _ (ckS_no c (by (first | decide +kernel | omega)) (by (first | decide +kernel | omega)))]; exact r j hj
theorem ah_put {h h1 h2 : Hp} {n : Int} {k i : Nat} {x : Int32} (r : ah h h1 n) (e : h2 = pI h1 k i x) (hk : k ≠ 131) : ah h h2 n := fun j hj => by rw [e, pI_at, if_neg (by (first | decide +kernel | omega))]; exact r j hj
theorem nC_of {h hx : Hp} (s : s7 h hx) : nC h hx := fun i _ => s i
theorem nC_put {h h1 h2 : Hp} {k i : Nat} {x : Int32} (r : nC h h1) (e : h2 = pI h1 k i x) (hk : k ≠ 117 ∨ 64 ≤ i ∧ i < 84) : nC h h2 := fun j hj => by rw [e, pI_at, if_neg (by (first | decide +kernel | omega))]; exact r j hj
theorem MRN_0 {h hx : Hp} {k f : Nat} {W : Int} (s : s7 h hx) : MRN h hx k f W 0 := ⟨fun i _ => (s _).symm, fun i _ => (s _).symm⟩
theorem whl_i {t s l f n i : Int} (h0 : 0 ≤ i ∧ i < n) (h1 : i = 0 ∨ t = l ∧ 0 ≤ f ∧ f + 3 * i ≤ s) (h2 : t ≠ l ∨ f + 3 * i < 0 ∨ s ≤ f + 3 * i + 2) : i = whl t s l f n := by
  unfold whl
  split
  · omega
  · split <;> omega
theorem whl_n {t s l f n : Int} (h0 : 0 ≤ n) (h1 : n = 0 ∨ t = l ∧ 0 ≤ f ∧ f + 3 * n ≤ s) : n = whl t s l f n := by
  unfold whl
  split
  · omega
  · split <;> omega
/-- one bore more, in the reference -/
theorem RN_m {h hx hy : Hp} {k f n : Nat} {W o c dd : Int} {y0 y1 y2 r : Int32} (hW : W ≤ 16) (rn : MRN h hx k f W n) (nc : nC h hx) (c4 : hx.1 116 4 = h.1 116 4) (c5 : hx.1 116 5 = h.1 116 5) (e0 : y0.toInt = o) (e1 : y1.toInt = c) (e2 : y2.toInt = dd) (be : BE hx hy 117 (80 + o).toNat 117 (64 + c).toNat (0 ≤ o ∧ o ≤ 3 ∧ 0 ≤ c ∧ c < W ∧ 1 ≤ dd ∧ dd ≤ 9) (hx.1 117 (48 + c).toNat) y0 (hx.1 117 (80 + o).toNat) (hx.1 117 (64 + c).toNat) (hx.1 117 (0 + c).toNat) (hx.1 116 4) (hx.1 116 5) y2 r) (s0 : y0 = h.1 130 (40 * k + (f + 3 * n))) (s1 : y1 = h.1 130 (40 * k + (f + 3 * n + 1))) (s2 : y2 = h.1 130 (40 * k + (f + 3 * n + 2))) : (r.toInt < 0 ∧ hy = hx ∧ MSF h hx k f W n ∨ 0 ≤ r.toInt ∧ MRN h hy k f W (n + 1)) ∧ nC h hy := by
  subst e0
  subst e1
  subst e2
  rw [c4, c5] at be
  unfold MSF
  rw [← s0, ← s1, ← s2]
  by_cases g : G9 W y0 y1 y2
  · have g' := g
    unfold G9 at g'
    rw [show (80 + y0.toInt).toNat = 80 + y0.toInt.toNat by (first | decide +kernel | omega), show (64 + y1.toInt).toNat = 64 + y1.toInt.toNat by (first | decide +kernel | omega), show (48 + y1.toInt).toNat = 48 + y1.toInt.toNat by (first | decide +kernel | omega), show (0 + y1.toInt).toNat = 0 + y1.toInt.toNat by (first | decide +kernel | omega)] at be
    have k9 := ST_of (h := hx) (h' := hy) (kp := 117) (kb := 117) (op := 80) (ob := 64) (l := fun i => h.1 117 (48 + i)) (w := fun i => h.1 117 (0 + i)) (W := W) (o := y0) (c := y1) (d := y2) (Or.inr (Or.inr (by decide))) hW be (fun _ => nc _ (by (first | decide +kernel | omega))) (fun _ => nc _ (by (first | decide +kernel | omega)))
    rcases k9 with ⟨k1, k2, k3⟩ | ⟨k1, k2⟩
    · exact ⟨Or.inl ⟨k1, k2, k3⟩, by rw [k2]; exact nc⟩
    · refine ⟨Or.inr ⟨k1, _, _, rn, ?_⟩, ?_⟩
      · show ST1 _ _ _ _ _ (h.1 130 (40 * k + (f + 3 * n))) (h.1 130 (40 * k + (f + 3 * n + 1))) (h.1 130 (40 * k + (f + 3 * n + 2))) _ _ _ _
        rw [← s0, ← s1, ← s2]
        exact k2
      · rcases be with ⟨b1, b2, b3⟩ | ⟨b1, x, b2, b3⟩
        · rw [b2]; exact nc
        · rcases b3 with ⟨_, b4, _⟩ | ⟨_, b4, _⟩
          · rw [b4]; exact nc
          · intro i hi
            rw [b4, pI_at, if_neg (by (first | decide +kernel | omega)), pI_at, if_neg (by (first | decide +kernel | omega))]
            exact nc i hi
  · rcases be with ⟨b1, b2, b3⟩ | ⟨b1, x, b2, b3⟩
    · exact ⟨Or.inl ⟨by (first | decide +kernel | omega), b2, Or.inl g⟩, by rw [b2]; exact nc⟩
    · exact absurd b1 g
/-- bores and purses come back -/
def rst (h hx : Hp) (n : Int) : Prop := ∀ j : Nat, (j : Int) < n → hx.1 117 (64 + j) = h.1 117 (64 + j)
theorem rst_0 {h hx : Hp} : rst h hx 0 := fun j hj => by (first | decide +kernel | omega)
theorem rst_s {h h1 h2 : Hp} {n : Int} {y : Int32} (r : rst h h1 n) (a : ah h h1 20) (hn : 0 ≤ n ∧ n < 20) (e : h2 = pI h1 117 (64 + n).toNat y) (ye : y = h1.1 131 n.toNat) : rst h h2 (n + 1) := fun j hj => by
  rw [e, pI_at]
  by_cases q : j = n.toNat
  · rw [if_pos ⟨rfl, by (first | decide +kernel | omega)⟩, ye, a _ (by (first | decide +kernel | omega)), q]
  · rw [if_neg (by (first | decide +kernel | omega))]; exact r j (by (first | decide +kernel | omega))
def RDm (h h' : Hp) (k : Nat) (l f n W : Int) (r : Int32) : Prop := (∃ m : Nat, (m : Int) = whl (h.1 128 k).toInt (h.1 129 k).toInt l f n ∧ RO (fun i => h.1 117 (48 + i)) (fun i => h.1 117 (0 + i)) (h.1 116 4) (h.1 116 5) W (fun j => h.1 130 (40 * k + j)) f.toNat m (fun i => h.1 117 (80 + i)) (fun i => h.1 117 (64 + i)) r (fun i => h'.1 117 (80 + i)) (fun i => h'.1 117 (64 + i))) ∧ nC h h'
theorem RDm_good {h hx hz : Hp} {k m i' : Nat} {l f nn W : Int} {r x : Int32} (hm : (m : Int) = whl (h.1 128 k).toInt (h.1 129 k).toInt l f nn) (er : r.toInt = (m : Int)) (rn : MRN h hx k f.toNat W m) (nc : nC h hx) (e : hz = pI hx 116 i' x) : RDm h hz k l f nn W r := by
  refine ⟨⟨m, hm, Or.inl ⟨er, ?_⟩⟩, nC_put nc e (Or.inl (by decide))⟩
  rw [e, pI_ne (by decide)]
  exact rn
theorem RDm_bad {h hx hz : Hp} {k m n : Nat} {l f nn W N : Int} {r : Int32} (hm : (m : Int) = whl (h.1 128 k).toInt (h.1 129 k).toInt l f nn) (hn : n < m) (er : r.toInt = -20 - (n : Int)) (rn : MRN h hx k f.toNat W n) (sf : MSF h hx k f.toNat W n) (nc : nC h hz) (rs : rst h hz N) (hN : 20 ≤ N) : RDm h hz k l f nn W r :=
  ⟨⟨m, hm, Or.inr ⟨⟨n, hn, er, _, _, rn, sf⟩, fun i hi => by show h.1 117 (80 + i) = hz.1 117 (80 + i); rw [show 80 + i = 64 + (16 + i) by (first | decide +kernel | omega)]; exact (rs _ (by (first | decide +kernel | omega))).symm, fun i hi => (rs i (by (first | decide +kernel | omega))).symm⟩⟩, nc⟩
/-- the two pass the same number of bores on -/
theorem whl_lt {t s l f n i : Int} (h0 : 0 ≤ i ∧ i < n) (h1 : t = l ∧ 0 ≤ f ∧ f + 3 * i + 2 < s) : i < whl t s l f n := by
  unfold whl
  rw [if_neg (by (first | decide +kernel | omega))]
  split <;> omega
theorem whl_st {t s l f n a b c : Int} (h : a = 0 ∧ b = c ∧ (c = 0 ∨ t = l ∧ 0 ≤ f ∧ f + 3 * c ≤ s) ∨ a ≠ 0 ∧ b = whl t s l f n) (h1 : n ≤ c ∧ c ≤ n) (h0 : 0 ≤ n) : b = whl t s l f n := by
  rcases h with ⟨_, q2, q3⟩ | q
  · have e : c = n := by (first | decide +kernel | omega)
    subst e
    rw [q2]
    exact whl_n h0 q3
  · exact q.2
end
section
def S_Mod_readZ : List (Nat × Option Nat) := [(117, none), (131, none), (116, some 35)]
abbrev q_Mod_readZ (h : Hp) (k : Int32) (kZ : Int) (l : Int32) (lZ : Int) (f : Int32) (fZ : Int) (n : Int32) (nZ : Int) (w : Int32) (wZ : Int) (g : Int32) (gZ : Int) (x : Int32) (xZ : Int) (y : Int32) (yZ : Int) : Option Value → Hp → Prop := pInt (fun r h' => Inv h' ∧ fr S_Mod_readZ h h' ∧ ((kZ < 0 ∨ 3 < kZ ∨ lZ < 0 ∨ 2 < lZ ∨ nZ < 0 ∨ 13 < nZ) ∧ h' = h ∧ r.toInt = -1 ∨ ¬ (kZ < 0 ∨ 3 < kZ ∨ lZ < 0 ∨ 2 < lZ ∨ nZ < 0 ∨ 13 < nZ) ∧ RDm h h' kZ.toNat lZ fZ nZ (wZ * gZ) r))
set_option maxRecDepth 100000 in
theorem c_Mod_readZ (h : Hp) (hI : Inv h) (k : Int32) (kZ : Int) (kE : k.toInt = kZ) (l : Int32) (lZ : Int) (lE : l.toInt = lZ) (f : Int32) (fZ : Int) (fE : f.toInt = fZ) (n : Int32) (nZ : Int) (nE : n.toInt = nZ) (w : Int32) (wZ : Int) (wE : w.toInt = wZ) (wK : h.1 116 2 = w) (g : Int32) (gZ : Int) (gE : g.toInt = gZ) (gK : h.1 116 3 = g) (x : Int32) (xZ : Int) (xE : x.toInt = xZ) (xK : h.1 116 4 = x) (y : Int32) (yZ : Int) (yE : y.toInt = yZ) (yK : h.1 116 5 = y) : Ct y_Mod_read b_Mod_read 11 (some .int) 3 74 [.ref 116, .int k, .int l, .int f, .int n] h (q_Mod_readZ h k kZ l lZ f fZ n nZ w wZ g gZ x xZ y yZ) := by
  refine ct_ow R_Mod [some (.ref 116), some (.int k), some (.int l), some (.int f), some (.int n), none, none, none, none, none, none] rfl (by decide) rfl (Nat.le_of_ble_eq_true rfl) ?_
  have f0 : fr S_Mod_readZ h h := fr_rf
  have g1 : 2 ≤ wZ ∧ wZ ≤ 4 := inv_at hI wE wK.symm rfl
  have g2 : 2 ≤ gZ ∧ gZ ≤ 4 := inv_at hI gE gK.symm rfl
  obtain ⟨sv, svZ, svE, svK⟩ : ∃ (y : Int32) (Y : Int), y.toInt = Y ∧ y = h.1 129 kZ.toNat := ⟨_, _, rfl, rfl⟩
  have svB : 0 ≤ svZ ∧ svZ ≤ 40 := inv_at hI svE svK rfl
  have fB := And.intro (ti_lo f) (ti_hi f)
  rw [fE] at fB
  have m24 := mul24 (A := wZ) (B := gZ) (by (first | decide +kernel | omega)) (by (first | decide +kernel | omega))
  obtain ⟨tv, tvZ, tvE, tvK⟩ : ∃ (y : Int32) (Y : Int), y.toInt = Y ∧ y = h.1 128 kZ.toNat := ⟨_, _, rfl, rfl⟩
  refine V_iload_n 1 d_Mod_read_0 rfl rfl ?_
  refine V_iload_n 2 d_Mod_read_1 rfl rfl ?_
  refine N_callSI [.int k, .int l] [] cs_Mod_322 d_Mod_read_2 rfl (Nat.le_of_ble_eq_true rfl) (by decide) (by decide) (c_Mod_isSheet h k kZ kE l lZ lE) (fun z3 h4 z3Z z3E p5 => ?_)
  obtain ⟨eh4, p5⟩ := p5
  subst eh4
  refine V_if_eq 21 z3E d_Mod_read_5 (by decide) (fun c6 => ?_) (fun c6 => ?_)
  ·
    replace p5 := p5.resolve_left (fun q => by (first | decide +kernel | omega))
    refine V_iconst (-1) d_Mod_read_21 (by decide) ?_
    exact V_iret rfl d_Mod_read_22 ⟨(-1), rfl, ⟨hI, f0, (Or.inl ⟨by (first | decide +kernel | omega), rfl, tc_m1⟩)⟩⟩
  ·
    replace p5 := p5.resolve_right (fun q => by (first | decide +kernel | omega))
    refine V_iload d_Mod_read_8 rfl ?_
    refine V_i2l d_Mod_read_10 (fun z7 z7e z7E => ?_)
    have z7F : z7.toInt = nZ := z7E.trans nE
    refine V_lconst 0 d_Mod_read_11 (by decide) ?_
    refine V_ldc2 d_Mod_read_12 wl_Mod_275 ?_
    refine N_callSI [.long z7, .long 0, .long 13] [] cs_Mod_95 d_Mod_read_15 rfl (Nat.le_of_ble_eq_true rfl) (by decide) (by decide) (c_Mod_in h z7 nZ z7F 0 0 tl_0 13 13 tl_13) (fun z8 h9 z8Z z8E p10 => ?_)
    obtain ⟨eh9, p10⟩ := p10
    subst eh9
    refine V_if_ne 23 z8E d_Mod_read_18 (by decide) (fun c11 => ?_) (fun c11 => ?_)
    ·
      replace p10 := p10.resolve_right (fun q => by (first | decide +kernel | omega))
      refine V_iconst 0 d_Mod_read_23 (by decide) ?_
      refine V_istore 5 [some (.ref 116), some (.int k), some (.int l), some (.int f), some (.int n), some (.int 0), none, none, none, none, none] d_Mod_read_24 (by decide) rfl rfl ?_
      have L12 : ∀ (nn : Nat) (v14 : Int32) (v14Z : Int) (h15 : Hp), v14.toInt = v14Z → Inv h15 → fr S_Mod_readZ h h15 → h15.1 116 2 = w → h15.1 116 3 = g → h15.1 116 4 = x → h15.1 116 5 = y → 0 ≤ v14Z ∧ v14Z ≤ 20 → ah h h15 v14Z → s7 h h15 → 20 - v14Z < (nn : Int) → V R_Mod b_Mod_read 11 (some .int) 3 74 (q_Mod_readZ h k kZ l lZ f fZ n nZ w wZ g gZ x xZ y yZ) h15 26 [some (.ref 116), some (.int k), some (.int l), some (.int f), some (.int n), some (.int v14), none, none, none, none, none] [] := by
        intro nn
        induction nn with
        | zero => intro v14 v14Z h15 v14E Ih15 Fh15 K16 K17 K18 K19 q20 q21 q22 hm23; exact absurd hm23 (by (first | decide +kernel | omega))
        | succ nn ihL12 =>
          intro v14 v14Z h15 v14E Ih15 Fh15 K16 K17 K18 K19 q20 q21 q22 hm23
          have q79 : s7 h h15 := by assumption
          have ah9 : ah h h15 v14Z := by assumption
          refine V_iload d_Mod_read_26 rfl ?_
          refine V_bipush 20 d_Mod_read_28 (by decide) ?_
          refine V_icmp_ge 56 v14E tc_20 d_Mod_read_30 (by decide) (fun c24 => ?_) (fun c24 => ?_)
          ·
            refine V_iconst 0 d_Mod_read_56 (by decide) ?_
            refine V_istore 5 [some (.ref 116), some (.int k), some (.int l), some (.int f), some (.int n), some (.int 0), none, none, none, none, none] d_Mod_read_57 (by decide) rfl rfl ?_
            refine V_iconst 0 d_Mod_read_59 (by decide) ?_
            refine V_istore 6 [some (.ref 116), some (.int k), some (.int l), some (.int f), some (.int n), some (.int 0), some (.int 0), none, none, none, none] d_Mod_read_60 (by decide) rfl rfl ?_
            refine V_iconst 0 d_Mod_read_62 (by decide) ?_
            refine V_istore 7 [some (.ref 116), some (.int k), some (.int l), some (.int f), some (.int n), some (.int 0), some (.int 0), some (.int 0), none, none, none] d_Mod_read_63 (by decide) rfl rfl ?_
            have L25 : ∀ (nn : Nat) (v27 : Int32) (v27Z : Int) (v28 : Int32) (v28Z : Int) (v29 : Int32) (v29Z : Int) (h30 : Hp), v27.toInt = v27Z → v28.toInt = v28Z → v29.toInt = v29Z → Inv h30 → fr S_Mod_readZ h h30 → h30.1 116 2 = w → h30.1 116 3 = g → h30.1 116 4 = x → h30.1 116 5 = y → 0 ≤ v29Z ∧ v29Z ≤ nZ → 0 ≤ v28Z ∧ v28Z ≤ v29Z → (v27Z = 0 ∧ v28Z = v29Z ∧ (v29Z = 0 ∨ tvZ = lZ ∧ 0 ≤ fZ ∧ fZ + 3 * v29Z ≤ svZ) ∨ v27Z ≠ 0 ∧ v28Z = whl tvZ svZ lZ fZ nZ) → nC h h30 → ah h h30 20 → MRN h h30 kZ.toNat fZ.toNat (wZ * gZ) v28Z.toNat → nZ - v29Z < (nn : Int) → V R_Mod b_Mod_read 11 (some .int) 3 74 (q_Mod_readZ h k kZ l lZ f fZ n nZ w wZ g gZ x xZ y yZ) h30 65 [some (.ref 116), some (.int k), some (.int l), some (.int f), some (.int n), some (.int v27), some (.int v28), some (.int v29), none, none, none] [] := by
              intro nn
              induction nn with
              | zero => intro v27 v27Z v28 v28Z v29 v29Z h30 v27E v28E v29E Ih30 Fh30 K31 K32 K33 K34 q35 q36 q37 q38 q39 q40 hm41; exact absurd hm41 (by (first | decide +kernel | omega))
              | succ nn ihL25 =>
                intro v27 v27Z v28 v28Z v29 v29Z h30 v27E v28E v29E Ih30 Fh30 K31 K32 K33 K34 q35 q36 q37 q38 q39 q40 hm41
                have nc9 : nC h h30 := by assumption
                have ah8 : ah h h30 20 := by assumption
                have rn9 : MRN h h30 kZ.toNat fZ.toNat (wZ * gZ) v28Z.toNat := by assumption
                refine V_iload d_Mod_read_65 rfl ?_
                refine V_iload d_Mod_read_67 rfl ?_
                refine V_icmp_ge 265 v29E nE d_Mod_read_69 (by decide) (fun c42 => ?_) (fun c42 => ?_)
                ·
                  have hwn : v28Z = whl tvZ svZ lZ fZ nZ := whl_st (show (v27Z = 0 ∧ v28Z = v29Z ∧ (v29Z = 0 ∨ tvZ = lZ ∧ 0 ≤ fZ ∧ fZ + 3 * v29Z ≤ svZ) ∨ v27Z ≠ 0 ∧ v28Z = whl tvZ svZ lZ fZ nZ) from by assumption) (by (first | decide +kernel | omega)) (by (first | decide +kernel | omega))
                  refine V_aload_n 0 d_Mod_read_265 rfl rfl ?_
                  refine V_iload d_Mod_read_266 rfl ?_
                  refine N_putI fp_Mod_328 sk_116 rfl d_Mod_read_268 (fun h43 eh43 => ?_)
                  have hI44 : Inv h43 := inv_full Ih30 eh43 rfl
                  have f45 : fr S_Mod_readZ h h43 := fr_put Fh30 eh43 rfl
                  refine V_iload d_Mod_read_271 rfl ?_
                  exact V_iret rfl d_Mod_read_273 ⟨v28, rfl, ⟨hI44, f45, (Or.inr ⟨by (first | decide +kernel | omega), RDm_good (m := (v28Z).toNat) (by rw [← tvK, tvE, ← svK, svE]; omega) (by rw [v28E]; omega) rn9 nc9 eh43⟩)⟩⟩
                ·
                  refine V_iload d_Mod_read_72 rfl ?_
                  refine V_if_ne 265 v27E d_Mod_read_74 (by decide) (fun c47 => ?_) (fun c47 => ?_)
                  ·
                    have hwn : v28Z = whl tvZ svZ lZ fZ nZ := by (first | decide +kernel | omega)
                    refine V_aload_n 0 d_Mod_read_265 rfl rfl ?_
                    refine V_iload d_Mod_read_266 rfl ?_
                    refine N_putI fp_Mod_328 sk_116 rfl d_Mod_read_268 (fun h48 eh48 => ?_)
                    have hI49 : Inv h48 := inv_full Ih30 eh48 rfl
                    have f50 : fr S_Mod_readZ h h48 := fr_put Fh30 eh48 rfl
                    refine V_iload d_Mod_read_271 rfl ?_
                    exact V_iret rfl d_Mod_read_273 ⟨v28, rfl, ⟨hI49, f50, (Or.inr ⟨by (first | decide +kernel | omega), RDm_good (m := (v28Z).toNat) (by rw [← tvK, tvE, ← svK, svE]; omega) (by rw [v28E]; omega) rn9 nc9 eh48⟩)⟩⟩
                  ·
                    refine V_iconst 0 d_Mod_read_77 (by decide) ?_
                    refine V_istore 8 [some (.ref 116), some (.int k), some (.int l), some (.int f), some (.int n), some (.int v27), some (.int v28), some (.int v29), some (.int 0), none, none] d_Mod_read_78 (by decide) rfl rfl ?_
                    have L52 : ∀ (nn : Nat) (v54 : Int32) (v54Z : Int) (v55 : Int32) (v55Z : Int), v54.toInt = v54Z → v55.toInt = v55Z → 0 ≤ v55Z ∧ v55Z ≤ 3 → (v54Z = 0 ∧ (v55Z = 0 ∨ tvZ = lZ ∧ 0 ≤ fZ + 3 * v29Z ∧ fZ + 3 * v29Z + v55Z - 1 < svZ) ∨ v54Z ≠ 0 ∧ (tvZ ≠ lZ ∨ fZ + 3 * v29Z < 0 ∨ svZ ≤ fZ + 3 * v29Z + 2)) → 3 - v55Z < (nn : Int) → V R_Mod b_Mod_read 11 (some .int) 3 74 (q_Mod_readZ h k kZ l lZ f fZ n nZ w wZ g gZ x xZ y yZ) h30 80 [some (.ref 116), some (.int k), some (.int l), some (.int f), some (.int n), some (.int v54), some (.int v28), some (.int v29), some (.int v55), none, none] [] := by
                      intro nn
                      induction nn with
                      | zero => intro v54 v54Z v55 v55Z v54E v55E q56 q57 hm58; exact absurd hm58 (by (first | decide +kernel | omega))
                      | succ nn ihL52 =>
                        intro v54 v54Z v55 v55Z v54E v55E q56 q57 hm58
                        refine V_iload d_Mod_read_80 rfl ?_
                        refine V_iconst 3 d_Mod_read_82 (by decide) ?_
                        refine V_icmp_ge 167 v55E tc_3 d_Mod_read_83 (by decide) (fun c59 => ?_) (fun c59 => ?_)
                        ·
                          refine V_iload d_Mod_read_167 rfl ?_
                          refine V_if_ne 259 v54E d_Mod_read_169 (by decide) (fun c60 => ?_) (fun c60 => ?_)
                          ·
                            have hwh := whl_i (t := tvZ) (s := svZ) (l := lZ) (f := fZ) (n := nZ) (i := v29Z) (by (first | decide +kernel | omega)) (by (first | decide +kernel | omega)) (by (first | decide +kernel | omega))
                            obtain ⟨z61, z61E, z61e⟩ : ∃ y : Int32, y.toInt = v29Z + 1 ∧ y = v29 + Int32.ofInt 1 := ⟨_, ti_add v29E (by decide) (by (first | decide +kernel | omega)), rfl⟩
                            refine V_iinc 7 [some (.ref 116), some (.int k), some (.int l), some (.int f), some (.int n), some (.int v54), some (.int v28), some (.int z61), some (.int v55), none, none] d_Mod_read_259 rfl z61e.symm (by decide) rfl rfl ?_
                            refine V_goto 65 d_Mod_read_262 (by decide) ?_
                            refine V_drop 8 [some (.ref 116), some (.int k), some (.int l), some (.int f), some (.int n), some (.int v54), some (.int v28), some (.int z61), none, none, none] rfl ?_
                            exact ihL25 v54 v54Z v28 v28Z z61 ((v29Z + 1)) h30 v54E v28E z61E Ih30 Fh30 K31 K32 K33 K34 (by (first | decide +kernel | omega)) (by (first | decide +kernel | omega)) (by (first | decide +kernel | omega)) nc9 ah8 rn9 (by (first | decide +kernel | omega))
                          ·
                            refine V_bipush 40 d_Mod_read_172 (by decide) ?_
                            refine V_iload_n 1 d_Mod_read_174 rfl rfl ?_
                            refine V_imul tc_40 kE (by (first | decide +kernel | omega)) d_Mod_read_175 (fun z62 z62e z62E => ?_)
                            refine V_iload_n 3 d_Mod_read_176 rfl rfl ?_
                            refine V_iadd z62E fE (by (first | decide +kernel | omega)) d_Mod_read_177 (fun z63 z63e z63E => ?_)
                            refine V_iconst 3 d_Mod_read_178 (by decide) ?_
                            refine V_iload d_Mod_read_179 rfl ?_
                            refine V_imul tc_3 v29E (by (first | decide +kernel | omega)) d_Mod_read_181 (fun z64 z64e z64E => ?_)
                            refine V_iadd z63E z64E (by (first | decide +kernel | omega)) d_Mod_read_182 (fun z65 z65e z65E => ?_)
                            refine V_istore 8 [some (.ref 116), some (.int k), some (.int l), some (.int f), some (.int n), some (.int v54), some (.int v28), some (.int v29), some (.int z65), none, none] d_Mod_read_183 (by decide) rfl rfl ?_
                            refine V_aload_n 0 d_Mod_read_185 rfl rfl ?_
                            refine V_aload_n 0 d_Mod_read_186 rfl rfl ?_
                            refine V_getR fa_Mod_50 sk_116 rfl d_Mod_read_187 ?_
                            refine V_iload d_Mod_read_190 rfl ?_
                            refine N_iald sk_130 z65E (by (first | decide +kernel | omega)) d_Mod_read_192 (fun z66 z66Z z66E z66e => ?_)
                            refine V_aload_n 0 d_Mod_read_193 rfl rfl ?_
                            refine V_getR fa_Mod_50 sk_116 rfl d_Mod_read_194 ?_
                            refine V_iload d_Mod_read_197 rfl ?_
                            refine V_iconst 1 d_Mod_read_199 (by decide) ?_
                            refine V_iadd z65E tc_1 (by (first | decide +kernel | omega)) d_Mod_read_200 (fun z67 z67e z67E => ?_)
                            refine N_iald sk_130 z67E (by (first | decide +kernel | omega)) d_Mod_read_201 (fun z68 z68Z z68E z68e => ?_)
                            refine V_aload_n 0 d_Mod_read_202 rfl rfl ?_
                            refine V_getR fa_Mod_50 sk_116 rfl d_Mod_read_203 ?_
                            refine V_iload d_Mod_read_206 rfl ?_
                            refine V_iconst 2 d_Mod_read_208 (by decide) ?_
                            refine V_iadd z65E tc_2 (by (first | decide +kernel | omega)) d_Mod_read_209 (fun z69 z69e z69E => ?_)
                            refine N_iald sk_130 z69E (by (first | decide +kernel | omega)) d_Mod_read_210 (fun z70 z70Z z70E z70e => ?_)
                            refine N_callVI [.int z66, .int z68, .int z70] [] cv_Mod_325 sk_116 rfl d_Mod_read_211 rfl (Nat.le_of_ble_eq_true rfl) (by decide) (by decide) (c_Mod_boreX h30 Ih30 z66 z66Z z66E z68 z68Z z68E z70 z70Z z70E w wZ wE K31 g gZ gE K32 x xZ xE K33 y yZ yE K34) (fun z71 h72 z71Z z71E p73 => ?_)
                            obtain ⟨hI74, fh72, p73⟩ := p73
                            have f75 : fr S_Mod_readZ h h72 := fr_call Fh30 fh72 rfl
                            have hB := RN_m (h := h) (k := kZ.toNat) (f := fZ.toNat) (n := v28Z.toNat) (W := wZ * gZ) (by (first | decide +kernel | omega)) rn9 nc9 (K33.trans xK.symm) (K34.trans yK.symm) z66E z68E z70E p73 (by rw [z66e, Fh30.1 130 _ rfl]; exact congrArg (h.1 130) (by (first | decide +kernel | omega))) (by rw [z68e, Fh30.1 130 _ rfl]; exact congrArg (h.1 130) (by (first | decide +kernel | omega))) (by rw [z70e, Fh30.1 130 _ rfl]; exact congrArg (h.1 130) (by (first | decide +kernel | omega)))
                            have A76 : ah h h72 20 := ah_fr fh72 rfl ah8
                            refine V_if_ge 256 z71E d_Mod_read_214 (by decide) (fun c77 => ?_) (fun c77 => ?_)
                            ·
                              have hb9 := (hB.1.resolve_left (fun q => absurd q.1 (by (first | decide +kernel | omega)))).2
                              obtain ⟨z78, z78E, z78e⟩ : ∃ y : Int32, y.toInt = v28Z + 1 ∧ y = v28 + Int32.ofInt 1 := ⟨_, ti_add v28E (by decide) (by (first | decide +kernel | omega)), rfl⟩
                              refine V_iinc 6 [some (.ref 116), some (.int k), some (.int l), some (.int f), some (.int n), some (.int v54), some (.int z78), some (.int v29), some (.int z65), none, none] d_Mod_read_256 rfl z78e.symm (by decide) rfl rfl ?_
                              obtain ⟨z79, z79E, z79e⟩ : ∃ y : Int32, y.toInt = v29Z + 1 ∧ y = v29 + Int32.ofInt 1 := ⟨_, ti_add v29E (by decide) (by (first | decide +kernel | omega)), rfl⟩
                              refine V_iinc 7 [some (.ref 116), some (.int k), some (.int l), some (.int f), some (.int n), some (.int v54), some (.int z78), some (.int z79), some (.int z65), none, none] d_Mod_read_259 rfl z79e.symm (by decide) rfl rfl ?_
                              refine V_goto 65 d_Mod_read_262 (by decide) ?_
                              refine V_drop 8 [some (.ref 116), some (.int k), some (.int l), some (.int f), some (.int n), some (.int v54), some (.int z78), some (.int z79), none, none, none] rfl ?_
                              exact ihL25 v54 v54Z z78 ((v28Z + 1)) z79 ((v29Z + 1)) h72 v54E z78E z79E hI74 f75 (kn_call fh72 K31 rfl) (kn_call fh72 K32 rfl) (kn_call fh72 K33 rfl) (kn_call fh72 K34 rfl) (by (first | decide +kernel | omega)) (by (first | decide +kernel | omega)) (by (first | decide +kernel | omega)) hB.2 A76 (by rw [show ((v28Z + 1)).toNat = (v28Z).toNat + 1 by (first | decide +kernel | omega)]; exact hb9) (by (first | decide +kernel | omega))
                            ·
                              obtain ⟨hb0, hb1, hb2⟩ := hB.1.resolve_right (fun q => absurd q.1 (by (first | decide +kernel | omega)))
                              have hwl := whl_lt (t := tvZ) (s := svZ) (l := lZ) (f := fZ) (n := nZ) (i := v29Z) (by (first | decide +kernel | omega)) (by (first | decide +kernel | omega))
                              refine V_iconst 0 d_Mod_read_217 (by decide) ?_
                              refine V_istore 9 [some (.ref 116), some (.int k), some (.int l), some (.int f), some (.int n), some (.int v54), some (.int v28), some (.int v29), some (.int z65), some (.int 0), none] d_Mod_read_218 (by decide) rfl rfl ?_
                              have L80 : ∀ (nn : Nat) (v82 : Int32) (v82Z : Int) (h83 : Hp), v82.toInt = v82Z → Inv h83 → fr S_Mod_readZ h h83 → h83.1 116 2 = w → h83.1 116 3 = g → h83.1 116 4 = x → h83.1 116 5 = y → 0 ≤ v82Z ∧ v82Z ≤ 20 → rst h h83 v82Z → nC h h83 → ah h h83 20 → 20 - v82Z < (nn : Int) → V R_Mod b_Mod_read 11 (some .int) 3 74 (q_Mod_readZ h k kZ l lZ f fZ n nZ w wZ g gZ x xZ y yZ) h83 220 [some (.ref 116), some (.int k), some (.int l), some (.int f), some (.int n), some (.int v54), some (.int v28), some (.int v29), some (.int z65), some (.int v82), none] [] := by
                                intro nn
                                induction nn with
                                | zero => intro v82 v82Z h83 v82E Ih83 Fh83 K84 K85 K86 K87 q88 q89 q90 q91 hm92; exact absurd hm92 (by (first | decide +kernel | omega))
                                | succ nn ihL80 =>
                                  intro v82 v82Z h83 v82E Ih83 Fh83 K84 K85 K86 K87 q88 q89 q90 q91 hm92
                                  have nc7 : nC h h83 := by assumption
                                  have ah7 : ah h h83 20 := by assumption
                                  refine V_iload d_Mod_read_220 rfl ?_
                                  refine V_bipush 20 d_Mod_read_222 (by decide) ?_
                                  refine V_icmp_ge 250 v82E tc_20 d_Mod_read_224 (by decide) (fun c93 => ?_) (fun c93 => ?_)
                                  ·
                                    refine V_bipush (-20) d_Mod_read_250 (by decide) ?_
                                    refine V_iload d_Mod_read_252 rfl ?_
                                    refine V_isub tc_m20 v29E (by (first | decide +kernel | omega)) d_Mod_read_254 (fun z94 z94e z94E => ?_)
                                    exact V_iret rfl d_Mod_read_255 ⟨z94, rfl, ⟨Ih83, Fh83, (Or.inr ⟨by (first | decide +kernel | omega), RDm_bad (m := (whl tvZ svZ lZ fZ nZ).toNat) (n := (v28Z).toNat) (by rw [← tvK, tvE, ← svK, svE]; omega) (by (first | decide +kernel | omega)) (by rw [z94E]; omega) rn9 hb2 nc7 (by assumption) (by (first | decide +kernel | omega))⟩)⟩⟩
                                  ·
                                    refine V_aload_n 0 d_Mod_read_227 rfl rfl ?_
                                    refine V_getR fa_Mod_7 sk_116 rfl d_Mod_read_228 ?_
                                    refine V_bipush 64 d_Mod_read_231 (by decide) ?_
                                    refine V_iload d_Mod_read_233 rfl ?_
                                    refine V_iadd tc_64 v82E (by (first | decide +kernel | omega)) d_Mod_read_235 (fun z95 z95e z95E => ?_)
                                    refine V_aload_n 0 d_Mod_read_236 rfl rfl ?_
                                    refine V_getR fa_Mod_53 sk_116 rfl d_Mod_read_237 ?_
                                    refine V_iload d_Mod_read_240 rfl ?_
                                    refine N_iald sk_131 v82E (by (first | decide +kernel | omega)) d_Mod_read_242 (fun z96 z96Z z96E z96e => ?_)
                                    refine N_iast sk_117 z95E (by (first | decide +kernel | omega)) d_Mod_read_243 (fun h97 eh97 => ?_)
                                    have hI98 : Inv h97 := inv_full Ih83 eh97 (st_lo (by (first | decide +kernel | omega)))
                                    have f99 : fr S_Mod_readZ h h97 := fr_put Fh83 eh97 rfl
                                    have Q100 : nC h h97 := nC_put nc7 eh97 (by (first | decide +kernel | omega))
                                    have Q101 : ah h h97 20 := ah_put ah7 eh97 (by decide)
                                    obtain ⟨z102, z102E, z102e⟩ : ∃ y : Int32, y.toInt = v82Z + 1 ∧ y = v82 + Int32.ofInt 1 := ⟨_, ti_add v82E (by decide) (by (first | decide +kernel | omega)), rfl⟩
                                    refine V_iinc 9 [some (.ref 116), some (.int k), some (.int l), some (.int f), some (.int n), some (.int v54), some (.int v28), some (.int v29), some (.int z65), some (.int z102), none] d_Mod_read_244 rfl z102e.symm (by decide) rfl rfl ?_
                                    refine V_goto 220 d_Mod_read_247 (by decide) ?_
                                    exact ihL80 z102 ((v82Z + 1)) h97 z102E hI98 f99 (kn_ne eh97 K84 (by decide)) (kn_ne eh97 K85 (by decide)) (kn_ne eh97 K86 (by decide)) (kn_ne eh97 K87 (by decide)) (by (first | decide +kernel | omega)) (rst_s (by assumption) ah7 (by (first | decide +kernel | omega)) eh97 (by assumption)) Q100 Q101 (by (first | decide +kernel | omega))
                              exact L80 (Int.toNat ((20 - 0 : Int) + 1)) 0 0 h72 tc_0 hI74 f75 (kn_call fh72 K31 rfl) (kn_call fh72 K32 rfl) (kn_call fh72 K33 rfl) (kn_call fh72 K34 rfl) (by (first | decide +kernel | omega)) rst_0 hB.2 A76 (by (first | decide +kernel | omega))
                        ·
                          refine V_iload d_Mod_read_86 rfl ?_
                          refine V_if_ne 167 v54E d_Mod_read_88 (by decide) (fun c103 => ?_) (fun c103 => ?_)
                          ·
                            refine V_iload d_Mod_read_167 rfl ?_
                            refine V_if_ne 259 v54E d_Mod_read_169 (by decide) (fun c104 => ?_) (fun c104 => ?_)
                            ·
                              have hwh := whl_i (t := tvZ) (s := svZ) (l := lZ) (f := fZ) (n := nZ) (i := v29Z) (by (first | decide +kernel | omega)) (by (first | decide +kernel | omega)) (by (first | decide +kernel | omega))
                              obtain ⟨z105, z105E, z105e⟩ : ∃ y : Int32, y.toInt = v29Z + 1 ∧ y = v29 + Int32.ofInt 1 := ⟨_, ti_add v29E (by decide) (by (first | decide +kernel | omega)), rfl⟩
                              refine V_iinc 7 [some (.ref 116), some (.int k), some (.int l), some (.int f), some (.int n), some (.int v54), some (.int v28), some (.int z105), some (.int v55), none, none] d_Mod_read_259 rfl z105e.symm (by decide) rfl rfl ?_
                              refine V_goto 65 d_Mod_read_262 (by decide) ?_
                              refine V_drop 8 [some (.ref 116), some (.int k), some (.int l), some (.int f), some (.int n), some (.int v54), some (.int v28), some (.int z105), none, none, none] rfl ?_
                              exact ihL25 v54 v54Z v28 v28Z z105 ((v29Z + 1)) h30 v54E v28E z105E Ih30 Fh30 K31 K32 K33 K34 (by (first | decide +kernel | omega)) (by (first | decide +kernel | omega)) (by (first | decide +kernel | omega)) nc9 ah8 rn9 (by (first | decide +kernel | omega))
                            ·
                              refine V_bipush 40 d_Mod_read_172 (by decide) ?_
                              refine V_iload_n 1 d_Mod_read_174 rfl rfl ?_
                              refine V_imul tc_40 kE (by (first | decide +kernel | omega)) d_Mod_read_175 (fun z106 z106e z106E => ?_)
                              refine V_iload_n 3 d_Mod_read_176 rfl rfl ?_
                              refine V_iadd z106E fE (by (first | decide +kernel | omega)) d_Mod_read_177 (fun z107 z107e z107E => ?_)
                              refine V_iconst 3 d_Mod_read_178 (by decide) ?_
                              refine V_iload d_Mod_read_179 rfl ?_
                              refine V_imul tc_3 v29E (by (first | decide +kernel | omega)) d_Mod_read_181 (fun z108 z108e z108E => ?_)
                              refine V_iadd z107E z108E (by (first | decide +kernel | omega)) d_Mod_read_182 (fun z109 z109e z109E => ?_)
                              refine V_istore 8 [some (.ref 116), some (.int k), some (.int l), some (.int f), some (.int n), some (.int v54), some (.int v28), some (.int v29), some (.int z109), none, none] d_Mod_read_183 (by decide) rfl rfl ?_
                              refine V_aload_n 0 d_Mod_read_185 rfl rfl ?_
                              refine V_aload_n 0 d_Mod_read_186 rfl rfl ?_
                              refine V_getR fa_Mod_50 sk_116 rfl d_Mod_read_187 ?_
                              refine V_iload d_Mod_read_190 rfl ?_
                              refine N_iald sk_130 z109E (by (first | decide +kernel | omega)) d_Mod_read_192 (fun z110 z110Z z110E z110e => ?_)
                              refine V_aload_n 0 d_Mod_read_193 rfl rfl ?_
                              refine V_getR fa_Mod_50 sk_116 rfl d_Mod_read_194 ?_
                              refine V_iload d_Mod_read_197 rfl ?_
                              refine V_iconst 1 d_Mod_read_199 (by decide) ?_
                              refine V_iadd z109E tc_1 (by (first | decide +kernel | omega)) d_Mod_read_200 (fun z111 z111e z111E => ?_)
                              refine N_iald sk_130 z111E (by (first | decide +kernel | omega)) d_Mod_read_201 (fun z112 z112Z z112E z112e => ?_)
                              refine V_aload_n 0 d_Mod_read_202 rfl rfl ?_
                              refine V_getR fa_Mod_50 sk_116 rfl d_Mod_read_203 ?_
                              refine V_iload d_Mod_read_206 rfl ?_
                              refine V_iconst 2 d_Mod_read_208 (by decide) ?_
                              refine V_iadd z109E tc_2 (by (first | decide +kernel | omega)) d_Mod_read_209 (fun z113 z113e z113E => ?_)
                              refine N_iald sk_130 z113E (by (first | decide +kernel | omega)) d_Mod_read_210 (fun z114 z114Z z114E z114e => ?_)
                              refine N_callVI [.int z110, .int z112, .int z114] [] cv_Mod_325 sk_116 rfl d_Mod_read_211 rfl (Nat.le_of_ble_eq_true rfl) (by decide) (by decide) (c_Mod_boreX h30 Ih30 z110 z110Z z110E z112 z112Z z112E z114 z114Z z114E w wZ wE K31 g gZ gE K32 x xZ xE K33 y yZ yE K34) (fun z115 h116 z115Z z115E p117 => ?_)
                              obtain ⟨hI118, fh116, p117⟩ := p117
                              have f119 : fr S_Mod_readZ h h116 := fr_call Fh30 fh116 rfl
                              have hB := RN_m (h := h) (k := kZ.toNat) (f := fZ.toNat) (n := v28Z.toNat) (W := wZ * gZ) (by (first | decide +kernel | omega)) rn9 nc9 (K33.trans xK.symm) (K34.trans yK.symm) z110E z112E z114E p117 (by rw [z110e, Fh30.1 130 _ rfl]; exact congrArg (h.1 130) (by (first | decide +kernel | omega))) (by rw [z112e, Fh30.1 130 _ rfl]; exact congrArg (h.1 130) (by (first | decide +kernel | omega))) (by rw [z114e, Fh30.1 130 _ rfl]; exact congrArg (h.1 130) (by (first | decide +kernel | omega)))
                              have A120 : ah h h116 20 := ah_fr fh116 rfl ah8
                              refine V_if_ge 256 z115E d_Mod_read_214 (by decide) (fun c121 => ?_) (fun c121 => ?_)
                              ·
                                have hb9 := (hB.1.resolve_left (fun q => absurd q.1 (by (first | decide +kernel | omega)))).2
                                obtain ⟨z122, z122E, z122e⟩ : ∃ y : Int32, y.toInt = v28Z + 1 ∧ y = v28 + Int32.ofInt 1 := ⟨_, ti_add v28E (by decide) (by (first | decide +kernel | omega)), rfl⟩
                                refine V_iinc 6 [some (.ref 116), some (.int k), some (.int l), some (.int f), some (.int n), some (.int v54), some (.int z122), some (.int v29), some (.int z109), none, none] d_Mod_read_256 rfl z122e.symm (by decide) rfl rfl ?_
                                obtain ⟨z123, z123E, z123e⟩ : ∃ y : Int32, y.toInt = v29Z + 1 ∧ y = v29 + Int32.ofInt 1 := ⟨_, ti_add v29E (by decide) (by (first | decide +kernel | omega)), rfl⟩
                                refine V_iinc 7 [some (.ref 116), some (.int k), some (.int l), some (.int f), some (.int n), some (.int v54), some (.int z122), some (.int z123), some (.int z109), none, none] d_Mod_read_259 rfl z123e.symm (by decide) rfl rfl ?_
                                refine V_goto 65 d_Mod_read_262 (by decide) ?_
                                refine V_drop 8 [some (.ref 116), some (.int k), some (.int l), some (.int f), some (.int n), some (.int v54), some (.int z122), some (.int z123), none, none, none] rfl ?_
                                exact ihL25 v54 v54Z z122 ((v28Z + 1)) z123 ((v29Z + 1)) h116 v54E z122E z123E hI118 f119 (kn_call fh116 K31 rfl) (kn_call fh116 K32 rfl) (kn_call fh116 K33 rfl) (kn_call fh116 K34 rfl) (by (first | decide +kernel | omega)) (by (first | decide +kernel | omega)) (by (first | decide +kernel | omega)) hB.2 A120 (by rw [show ((v28Z + 1)).toNat = (v28Z).toNat + 1 by (first | decide +kernel | omega)]; exact hb9) (by (first | decide +kernel | omega))
                              ·
                                obtain ⟨hb0, hb1, hb2⟩ := hB.1.resolve_right (fun q => absurd q.1 (by (first | decide +kernel | omega)))
                                have hwl := whl_lt (t := tvZ) (s := svZ) (l := lZ) (f := fZ) (n := nZ) (i := v29Z) (by (first | decide +kernel | omega)) (by (first | decide +kernel | omega))
                                refine V_iconst 0 d_Mod_read_217 (by decide) ?_
                                refine V_istore 9 [some (.ref 116), some (.int k), some (.int l), some (.int f), some (.int n), some (.int v54), some (.int v28), some (.int v29), some (.int z109), some (.int 0), none] d_Mod_read_218 (by decide) rfl rfl ?_
                                have L124 : ∀ (nn : Nat) (v126 : Int32) (v126Z : Int) (h127 : Hp), v126.toInt = v126Z → Inv h127 → fr S_Mod_readZ h h127 → h127.1 116 2 = w → h127.1 116 3 = g → h127.1 116 4 = x → h127.1 116 5 = y → 0 ≤ v126Z ∧ v126Z ≤ 20 → rst h h127 v126Z → nC h h127 → ah h h127 20 → 20 - v126Z < (nn : Int) → V R_Mod b_Mod_read 11 (some .int) 3 74 (q_Mod_readZ h k kZ l lZ f fZ n nZ w wZ g gZ x xZ y yZ) h127 220 [some (.ref 116), some (.int k), some (.int l), some (.int f), some (.int n), some (.int v54), some (.int v28), some (.int v29), some (.int z109), some (.int v126), none] [] := by
                                  intro nn
                                  induction nn with
                                  | zero => intro v126 v126Z h127 v126E Ih127 Fh127 K128 K129 K130 K131 q132 q133 q134 q135 hm136; exact absurd hm136 (by (first | decide +kernel | omega))
                                  | succ nn ihL124 =>
                                    intro v126 v126Z h127 v126E Ih127 Fh127 K128 K129 K130 K131 q132 q133 q134 q135 hm136
                                    have nc7 : nC h h127 := by assumption
                                    have ah7 : ah h h127 20 := by assumption
                                    refine V_iload d_Mod_read_220 rfl ?_
                                    refine V_bipush 20 d_Mod_read_222 (by decide) ?_
                                    refine V_icmp_ge 250 v126E tc_20 d_Mod_read_224 (by decide) (fun c137 => ?_) (fun c137 => ?_)
                                    ·
                                      refine V_bipush (-20) d_Mod_read_250 (by decide) ?_
                                      refine V_iload d_Mod_read_252 rfl ?_
                                      refine V_isub tc_m20 v29E (by (first | decide +kernel | omega)) d_Mod_read_254 (fun z138 z138e z138E => ?_)
                                      exact V_iret rfl d_Mod_read_255 ⟨z138, rfl, ⟨Ih127, Fh127, (Or.inr ⟨by (first | decide +kernel | omega), RDm_bad (m := (whl tvZ svZ lZ fZ nZ).toNat) (n := (v28Z).toNat) (by rw [← tvK, tvE, ← svK, svE]; omega) (by (first | decide +kernel | omega)) (by rw [z138E]; omega) rn9 hb2 nc7 (by assumption) (by (first | decide +kernel | omega))⟩)⟩⟩
                                    ·
                                      refine V_aload_n 0 d_Mod_read_227 rfl rfl ?_
                                      refine V_getR fa_Mod_7 sk_116 rfl d_Mod_read_228 ?_
                                      refine V_bipush 64 d_Mod_read_231 (by decide) ?_
                                      refine V_iload d_Mod_read_233 rfl ?_
                                      refine V_iadd tc_64 v126E (by (first | decide +kernel | omega)) d_Mod_read_235 (fun z139 z139e z139E => ?_)
                                      refine V_aload_n 0 d_Mod_read_236 rfl rfl ?_
                                      refine V_getR fa_Mod_53 sk_116 rfl d_Mod_read_237 ?_
                                      refine V_iload d_Mod_read_240 rfl ?_
                                      refine N_iald sk_131 v126E (by (first | decide +kernel | omega)) d_Mod_read_242 (fun z140 z140Z z140E z140e => ?_)
                                      refine N_iast sk_117 z139E (by (first | decide +kernel | omega)) d_Mod_read_243 (fun h141 eh141 => ?_)
                                      have hI142 : Inv h141 := inv_full Ih127 eh141 (st_lo (by (first | decide +kernel | omega)))
                                      have f143 : fr S_Mod_readZ h h141 := fr_put Fh127 eh141 rfl
                                      have Q144 : nC h h141 := nC_put nc7 eh141 (by (first | decide +kernel | omega))
                                      have Q145 : ah h h141 20 := ah_put ah7 eh141 (by decide)
                                      obtain ⟨z146, z146E, z146e⟩ : ∃ y : Int32, y.toInt = v126Z + 1 ∧ y = v126 + Int32.ofInt 1 := ⟨_, ti_add v126E (by decide) (by (first | decide +kernel | omega)), rfl⟩
                                      refine V_iinc 9 [some (.ref 116), some (.int k), some (.int l), some (.int f), some (.int n), some (.int v54), some (.int v28), some (.int v29), some (.int z109), some (.int z146), none] d_Mod_read_244 rfl z146e.symm (by decide) rfl rfl ?_
                                      refine V_goto 220 d_Mod_read_247 (by decide) ?_
                                      exact ihL124 z146 ((v126Z + 1)) h141 z146E hI142 f143 (kn_ne eh141 K128 (by decide)) (kn_ne eh141 K129 (by decide)) (kn_ne eh141 K130 (by decide)) (kn_ne eh141 K131 (by decide)) (by (first | decide +kernel | omega)) (rst_s (by assumption) ah7 (by (first | decide +kernel | omega)) eh141 (by assumption)) Q144 Q145 (by (first | decide +kernel | omega))
                                exact L124 (Int.toNat ((20 - 0 : Int) + 1)) 0 0 h116 tc_0 hI118 f119 (kn_call fh116 K31 rfl) (kn_call fh116 K32 rfl) (kn_call fh116 K33 rfl) (kn_call fh116 K34 rfl) (by (first | decide +kernel | omega)) rst_0 hB.2 A120 (by (first | decide +kernel | omega))
                          ·
                            refine V_iload_n 3 d_Mod_read_91 rfl rfl ?_
                            refine V_i2l d_Mod_read_92 (fun z147 z147e z147E => ?_)
                            have z147F : z147.toInt = fZ := z147E.trans fE
                            refine V_iconst 3 d_Mod_read_93 (by decide) ?_
                            refine V_iload d_Mod_read_94 rfl ?_
                            refine V_imul tc_3 v29E (by (first | decide +kernel | omega)) d_Mod_read_96 (fun z148 z148e z148E => ?_)
                            refine V_i2l d_Mod_read_97 (fun z149 z149e z149E => ?_)
                            have z149F : z149.toInt = (3 * v29Z) := z149E.trans z148E
                            refine N_ladd d_Mod_read_98 (fun z150 z150Z z150E z150e => ?_)
                            have g151 : z150Z = fZ + (3 * v29Z) := by rw [← z150E, z150e]; exact t64_add z147F z149F (by (first | decide +kernel | omega))
                            refine V_iload d_Mod_read_99 rfl ?_
                            refine V_i2l d_Mod_read_101 (fun z152 z152e z152E => ?_)
                            have z152F : z152.toInt = v55Z := z152E.trans v55E
                            refine N_ladd d_Mod_read_102 (fun z153 z153Z z153E z153e => ?_)
                            have g154 : z153Z = z150Z + v55Z := by rw [← z153E, z153e]; exact t64_add z150E z152F (by (first | decide +kernel | omega))
                            refine V_lstore 9 [some (.ref 116), some (.int k), some (.int l), some (.int f), some (.int n), some (.int v54), some (.int v28), some (.int v29), some (.int v55), some (.long z153), none] d_Mod_read_103 (by decide) rfl rfl ?_
                            refine V_aload_n 0 d_Mod_read_105 rfl rfl ?_
                            refine V_getR fa_Mod_44 sk_116 rfl d_Mod_read_106 ?_
                            refine V_iload_n 1 d_Mod_read_109 rfl rfl ?_
                            refine N_iald sk_128 kE (by (first | decide +kernel | omega)) d_Mod_read_110 (fun z155 z155Z z155E z155e => ?_)
                            have g156 : z155Z = tvZ := by rw [← z155E, z155e, (Fh30).1 128 _ rfl, ← tvK, tvE]
                            refine V_bipush (-4) d_Mod_read_111 (by decide) ?_
                            refine V_icmp_ne 120 z155E tc_m4 d_Mod_read_113 (by decide) (fun c157 => ?_) (fun c157 => ?_)
                            ·
                              refine V_aload_n 0 d_Mod_read_120 rfl rfl ?_
                              refine V_getR fa_Mod_44 sk_116 rfl d_Mod_read_121 ?_
                              refine V_iload_n 1 d_Mod_read_124 rfl rfl ?_
                              refine N_iald sk_128 kE (by (first | decide +kernel | omega)) d_Mod_read_125 (fun z158 z158Z z158E z158e => ?_)
                              have g159 : z158Z = tvZ := by rw [← z158E, z158e, (Fh30).1 128 _ rfl, ← tvK, tvE]
                              refine V_iload_n 2 d_Mod_read_126 rfl rfl ?_
                              refine V_icmp_eq 134 z158E lE d_Mod_read_127 (by decide) (fun c160 => ?_) (fun c160 => ?_)
                              ·
                                refine V_lload d_Mod_read_134 rfl ?_
                                refine V_lconst 0 d_Mod_read_136 (by decide) ?_
                                refine N_lcmp d_Mod_read_137 (fun z161 z161Z z161E z161e => ?_)
                                have g162 := lcmp_ti z153E tl_0 z161e z161E
                                refine V_if_lt 154 z161E d_Mod_read_138 (by decide) (fun c163 => ?_) (fun c163 => ?_)
                                ·
                                  refine V_iconst 2 d_Mod_read_154 (by decide) ?_
                                  refine V_goto 159 d_Mod_read_155 (by decide) ?_
                                  refine V_istore 5 [some (.ref 116), some (.int k), some (.int l), some (.int f), some (.int n), some (.int 2), some (.int v28), some (.int v29), some (.int v55), some (.long z153), none] d_Mod_read_159 (by decide) rfl rfl ?_
                                  obtain ⟨z164, z164E, z164e⟩ : ∃ y : Int32, y.toInt = v55Z + 1 ∧ y = v55 + Int32.ofInt 1 := ⟨_, ti_add v55E (by decide) (by (first | decide +kernel | omega)), rfl⟩
                                  refine V_iinc 8 [some (.ref 116), some (.int k), some (.int l), some (.int f), some (.int n), some (.int 2), some (.int v28), some (.int v29), some (.int z164), some (.long z153), none] d_Mod_read_161 rfl z164e.symm (by decide) rfl rfl ?_
                                  refine V_goto 80 d_Mod_read_164 (by decide) ?_
                                  refine V_drop 9 [some (.ref 116), some (.int k), some (.int l), some (.int f), some (.int n), some (.int 2), some (.int v28), some (.int v29), some (.int z164), none, none] rfl ?_
                                  exact ihL52 2 2 z164 ((v55Z + 1)) tc_2 z164E (by (first | decide +kernel | omega)) (by (first | decide +kernel | omega)) (by (first | decide +kernel | omega))
                                ·
                                  refine V_lload d_Mod_read_141 rfl ?_
                                  refine V_aload_n 0 d_Mod_read_143 rfl rfl ?_
                                  refine V_getR fa_Mod_47 sk_116 rfl d_Mod_read_144 ?_
                                  refine V_iload_n 1 d_Mod_read_147 rfl rfl ?_
                                  refine N_iald sk_129 kE (by (first | decide +kernel | omega)) d_Mod_read_148 (fun z165 z165Z z165E z165e => ?_)
                                  have g166 : 0 ≤ z165Z ∧ z165Z ≤ 40 := inv_at Ih30 z165E z165e rfl
                                  have g167 : z165Z = svZ := by rw [← z165E, z165e, (Fh30).1 129 _ rfl, ← svK, svE]
                                  refine V_i2l d_Mod_read_149 (fun z168 z168e z168E => ?_)
                                  have z168F : z168.toInt = z165Z := z168E.trans z165E
                                  refine N_lcmp d_Mod_read_150 (fun z169 z169Z z169E z169e => ?_)
                                  have g170 := lcmp_ti z153E z168F z169e z169E
                                  refine V_if_lt 158 z169E d_Mod_read_151 (by decide) (fun c171 => ?_) (fun c171 => ?_)
                                  ·
                                    refine V_iconst 0 d_Mod_read_158 (by decide) ?_
                                    refine V_istore 5 [some (.ref 116), some (.int k), some (.int l), some (.int f), some (.int n), some (.int 0), some (.int v28), some (.int v29), some (.int v55), some (.long z153), none] d_Mod_read_159 (by decide) rfl rfl ?_
                                    obtain ⟨z172, z172E, z172e⟩ : ∃ y : Int32, y.toInt = v55Z + 1 ∧ y = v55 + Int32.ofInt 1 := ⟨_, ti_add v55E (by decide) (by (first | decide +kernel | omega)), rfl⟩
                                    refine V_iinc 8 [some (.ref 116), some (.int k), some (.int l), some (.int f), some (.int n), some (.int 0), some (.int v28), some (.int v29), some (.int z172), some (.long z153), none] d_Mod_read_161 rfl z172e.symm (by decide) rfl rfl ?_
                                    refine V_goto 80 d_Mod_read_164 (by decide) ?_
                                    refine V_drop 9 [some (.ref 116), some (.int k), some (.int l), some (.int f), some (.int n), some (.int 0), some (.int v28), some (.int v29), some (.int z172), none, none] rfl ?_
                                    exact ihL52 0 0 z172 ((v55Z + 1)) tc_0 z172E (by (first | decide +kernel | omega)) (by (first | decide +kernel | omega)) (by (first | decide +kernel | omega))
                                  ·
                                    refine V_iconst 2 d_Mod_read_154 (by decide) ?_
                                    refine V_goto 159 d_Mod_read_155 (by decide) ?_
                                    refine V_istore 5 [some (.ref 116), some (.int k), some (.int l), some (.int f), some (.int n), some (.int 2), some (.int v28), some (.int v29), some (.int v55), some (.long z153), none] d_Mod_read_159 (by decide) rfl rfl ?_
                                    obtain ⟨z173, z173E, z173e⟩ : ∃ y : Int32, y.toInt = v55Z + 1 ∧ y = v55 + Int32.ofInt 1 := ⟨_, ti_add v55E (by decide) (by (first | decide +kernel | omega)), rfl⟩
                                    refine V_iinc 8 [some (.ref 116), some (.int k), some (.int l), some (.int f), some (.int n), some (.int 2), some (.int v28), some (.int v29), some (.int z173), some (.long z153), none] d_Mod_read_161 rfl z173e.symm (by decide) rfl rfl ?_
                                    refine V_goto 80 d_Mod_read_164 (by decide) ?_
                                    refine V_drop 9 [some (.ref 116), some (.int k), some (.int l), some (.int f), some (.int n), some (.int 2), some (.int v28), some (.int v29), some (.int z173), none, none] rfl ?_
                                    exact ihL52 2 2 z173 ((v55Z + 1)) tc_2 z173E (by (first | decide +kernel | omega)) (by (first | decide +kernel | omega)) (by (first | decide +kernel | omega))
                              ·
                                refine V_iconst 3 d_Mod_read_130 (by decide) ?_
                                refine V_goto 159 d_Mod_read_131 (by decide) ?_
                                refine V_istore 5 [some (.ref 116), some (.int k), some (.int l), some (.int f), some (.int n), some (.int 3), some (.int v28), some (.int v29), some (.int v55), some (.long z153), none] d_Mod_read_159 (by decide) rfl rfl ?_
                                obtain ⟨z174, z174E, z174e⟩ : ∃ y : Int32, y.toInt = v55Z + 1 ∧ y = v55 + Int32.ofInt 1 := ⟨_, ti_add v55E (by decide) (by (first | decide +kernel | omega)), rfl⟩
                                refine V_iinc 8 [some (.ref 116), some (.int k), some (.int l), some (.int f), some (.int n), some (.int 3), some (.int v28), some (.int v29), some (.int z174), some (.long z153), none] d_Mod_read_161 rfl z174e.symm (by decide) rfl rfl ?_
                                refine V_goto 80 d_Mod_read_164 (by decide) ?_
                                refine V_drop 9 [some (.ref 116), some (.int k), some (.int l), some (.int f), some (.int n), some (.int 3), some (.int v28), some (.int v29), some (.int z174), none, none] rfl ?_
                                exact ihL52 3 3 z174 ((v55Z + 1)) tc_3 z174E (by (first | decide +kernel | omega)) (by (first | decide +kernel | omega)) (by (first | decide +kernel | omega))
                            ·
                              refine V_iconst 1 d_Mod_read_116 (by decide) ?_
                              refine V_goto 159 d_Mod_read_117 (by decide) ?_
                              refine V_istore 5 [some (.ref 116), some (.int k), some (.int l), some (.int f), some (.int n), some (.int 1), some (.int v28), some (.int v29), some (.int v55), some (.long z153), none] d_Mod_read_159 (by decide) rfl rfl ?_
                              obtain ⟨z175, z175E, z175e⟩ : ∃ y : Int32, y.toInt = v55Z + 1 ∧ y = v55 + Int32.ofInt 1 := ⟨_, ti_add v55E (by decide) (by (first | decide +kernel | omega)), rfl⟩
                              refine V_iinc 8 [some (.ref 116), some (.int k), some (.int l), some (.int f), some (.int n), some (.int 1), some (.int v28), some (.int v29), some (.int z175), some (.long z153), none] d_Mod_read_161 rfl z175e.symm (by decide) rfl rfl ?_
                              refine V_goto 80 d_Mod_read_164 (by decide) ?_
                              refine V_drop 9 [some (.ref 116), some (.int k), some (.int l), some (.int f), some (.int n), some (.int 1), some (.int v28), some (.int v29), some (.int z175), none, none] rfl ?_
                              exact ihL52 1 1 z175 ((v55Z + 1)) tc_1 z175E (by (first | decide +kernel | omega)) (by (first | decide +kernel | omega)) (by (first | decide +kernel | omega))
                    exact L52 (Int.toNat ((3 - 0 : Int) + 1)) v27 v27Z 0 0 v27E tc_0 (by (first | decide +kernel | omega)) (by (first | decide +kernel | omega)) (by (first | decide +kernel | omega))
            exact L25 (Int.toNat ((nZ - 0 : Int) + 1)) 0 0 0 0 0 0 h15 tc_0 tc_0 tc_0 Ih15 Fh15 K16 K17 K18 K19 (by (first | decide +kernel | omega)) (by (first | decide +kernel | omega)) (by (first | decide +kernel | omega)) (nC_of q79) (by rw [show (20 : Int) = v14Z by (first | decide +kernel | omega)]; exact ah9) (MRN_0 q79) (by (first | decide +kernel | omega))
          ·
            refine V_aload_n 0 d_Mod_read_33 rfl rfl ?_
            refine V_getR fa_Mod_53 sk_116 rfl d_Mod_read_34 ?_
            refine V_iload d_Mod_read_37 rfl ?_
            refine V_aload_n 0 d_Mod_read_39 rfl rfl ?_
            refine V_getR fa_Mod_7 sk_116 rfl d_Mod_read_40 ?_
            refine V_bipush 64 d_Mod_read_43 (by decide) ?_
            refine V_iload d_Mod_read_45 rfl ?_
            refine V_iadd tc_64 v14E (by (first | decide +kernel | omega)) d_Mod_read_47 (fun z176 z176e z176E => ?_)
            refine N_iald sk_117 z176E (by (first | decide +kernel | omega)) d_Mod_read_48 (fun z177 z177Z z177E z177e => ?_)
            refine N_iast sk_131 v14E (by (first | decide +kernel | omega)) d_Mod_read_49 (fun h178 eh178 => ?_)
            have hI179 : Inv h178 := inv_full Ih15 eh178 rfl
            have f180 : fr S_Mod_readZ h h178 := fr_put Fh15 eh178 rfl
            have Q181 : s7 h h178 := s7_put q79 eh178 (by decide)
            obtain ⟨z182, z182E, z182e⟩ : ∃ y : Int32, y.toInt = v14Z + 1 ∧ y = v14 + Int32.ofInt 1 := ⟨_, ti_add v14E (by decide) (by (first | decide +kernel | omega)), rfl⟩
            refine V_iinc 5 [some (.ref 116), some (.int k), some (.int l), some (.int f), some (.int n), some (.int z182), none, none, none, none, none] d_Mod_read_50 rfl z182e.symm (by decide) rfl rfl ?_
            refine V_goto 26 d_Mod_read_53 (by decide) ?_
            exact ihL12 z182 ((v14Z + 1)) h178 z182E hI179 f180 (kn_ne eh178 K16 (by decide)) (kn_ne eh178 K17 (by decide)) (kn_ne eh178 K18 (by decide)) (kn_ne eh178 K19 (by decide)) (by (first | decide +kernel | omega)) (ah_s ah9 q79 (by (first | decide +kernel | omega)) eh178 (by assumption)) Q181 (by (first | decide +kernel | omega))
      exact L12 (Int.toNat ((20 - 0 : Int) + 1)) 0 0 h tc_0 hI f0 wK gK xK yK (by (first | decide +kernel | omega)) ah_0 s7_rf (by (first | decide +kernel | omega))
    ·
      replace p10 := p10.resolve_left (fun q => by (first | decide +kernel | omega))
      refine V_iconst (-1) d_Mod_read_21 (by decide) ?_
      exact V_iret rfl d_Mod_read_22 ⟨(-1), rfl, ⟨hI, f0, (Or.inl ⟨by (first | decide +kernel | omega), rfl, tc_m1⟩)⟩⟩
end
section
def JS (h : Hp) : Prop := ∀ j : Nat, j < 4 → ((h.1 (108 + 2 * j) 1).toInt = -1 ∧ (h.1 128 j).toInt = -4 ∨ 0 ≤ (h.1 (108 + 2 * j) 1).toInt ∧ h.1 (108 + 2 * j) 1 = h.1 128 j) ∧ h.1 (108 + 2 * j) 2 = h.1 129 j ∧ ∀ i : Nat, i < 40 → h.1 (109 + 2 * j) i = h.1 130 (40 * j + i)
theorem RO_cg {l w l2 w2 : Nat → Int32} {co q : Int32} {W : Int} {s s2 : Nat → Int32} {f m : Nat} {p b p2 b2 p' b' : Nat → Int32} {r : Int32} (hW : W ≤ 16) (al : ag 16 l l2) (aw : ag 16 w w2) (ap : ag 4 p p2) (ab : ag 16 b b2) (as : ∀ j : Nat, f ≤ j → j < f + 3 * m → s j = s2 j) (h : RO l w co q W s f m p b r p' b') : RO l2 w2 co q W s2 f m p2 b2 r p' b' := by
  rcases h with ⟨h1, h2⟩ | ⟨⟨i, hi, h1, pa, ba, h2, h3⟩, h4, h5⟩
  · exact Or.inl ⟨h1, RN_cg hW al aw ap ab as m _ _ (Nat.le_refl m) h2⟩
  · refine Or.inr ⟨⟨i, hi, h1, pa, ba, RN_cg hW al aw ap ab as i _ _ (by (first | decide +kernel | omega)) h2, ?_⟩, ag_tr (ag_sy ap) h4, ag_tr (ag_sy ab) h5⟩
    rw [← as _ (by (first | decide +kernel | omega)) (by (first | decide +kernel | omega)), ← as _ (by (first | decide +kernel | omega)) (by (first | decide +kernel | omega)), ← as _ (by (first | decide +kernel | omega)) (by (first | decide +kernel | omega))]
    exact SF1_cg hW al aw ag_rf ag_rf h3
theorem dof_5 {i : Nat} (hi : i < 16) : dof (68 + 5) i = some (48 + i) := by unfold dof; rw [if_neg (by (first | decide +kernel | omega)), if_neg (by (first | decide +kernel | omega)), if_neg (by (first | decide +kernel | omega)), if_pos ⟨rfl, hi⟩]
theorem whl_same {t t2 s l f n : Int} (h : t = -1 ∧ t2 = -4 ∨ 0 ≤ t ∧ t = t2) (hl : 0 ≤ l) : whl t s l f n = whl t2 s l f n := by
  unfold whl
  rcases h with ⟨h1, h2⟩ | ⟨_, h2⟩
  · rw [if_pos (by (first | decide +kernel | omega)), if_pos (by (first | decide +kernel | omega))]
  · rw [h2]
theorem whl_b {t s l f n : Int} (hn : 0 ≤ n) : 0 ≤ whl t s l f n ∧ (whl t s l f n = 0 ∨ 0 ≤ f ∧ f + 3 * whl t s l f n ≤ s) := by
  unfold whl
  split
  · omega
  · split <;> omega
theorem nA_nC {h h' : Hp} (r : nC h h') : nA h h' := fun i hi => r i (by (first | decide +kernel | omega))
theorem JB_read {S1 S2 : List (Nat × Option Nat)} {h h1 h2 : Hp} {k l f n W : Int} {r1 r2 : Int32} {RB : Prop} (hI : Inv h) (ra : JA h) (rb : JB h) (rs : JS h) (f1 : fr S1 h h1) (f2 : fr S2 h1 h2) (s1 : ckS S1 34 84 = true) (s2 : ckS S1 86 131 = true) (s3 : ckS S2 0 115 = true) (hW : W ≤ 16) (hk : ¬ RB → 0 ≤ k ∧ k ≤ 3 ∧ 0 ≤ l ∧ 0 ≤ n)
    (E1 : RB ∧ h1 = h ∧ r1.toInt = -1 ∨ ¬ RB ∧ RDc h h1 k.toNat l f n W r1) (E2 : RB ∧ h2 = h1 ∧ r2.toInt = -1 ∨ ¬ RB ∧ RDm h1 h2 k.toNat l f n W r2) : JB h2 ∧ r1 = r2 := by
  rcases E1 with ⟨a1, a2, a3⟩ | ⟨a1, ⟨m1, a2, a3⟩, a4⟩
  · rcases E2 with ⟨b1, b2, b3⟩ | ⟨b1, b2⟩
    · rw [b2, a2]; exact ⟨rb, same_of a3 b3⟩
    · exact absurd a1 b1
  · rcases E2 with ⟨b1, b2, b3⟩ | ⟨b1, ⟨m2, b2, b3⟩, b4⟩
    · exact absurd b1 a1
    · have kk := hk a1
      have m1' : ∀ k i : Nat, 86 ≤ k → k ≤ 131 → h1.1 k i = h.1 k i := fun k i p q => f1.1 _ _ (ckS_no s2 p q)
      have c6 : ∀ k i : Nat, k ≤ 115 → h2.1 k i = h1.1 k i := fun k i p => f2.1 _ _ (ckS_no s3 (by (first | decide +kernel | omega)) p)
      obtain ⟨j1, j2, j3⟩ := rs k.toNat (by (first | decide +kernel | omega))
      have sz : 0 ≤ (h.1 129 k.toNat).toInt ∧ (h.1 129 k.toNat).toInt ≤ 40 := hI 129 k.toNat
      rw [m1' 128 _ (by (first | decide +kernel | omega)) (by (first | decide +kernel | omega)), m1' 129 _ (by (first | decide +kernel | omega)) (by (first | decide +kernel | omega)), ← j2] at b2
      have lane : (h.1 (108 + 2 * k.toNat) 1).toInt = -1 ∧ (h.1 128 k.toNat).toInt = -4 ∨ 0 ≤ (h.1 (108 + 2 * k.toNat) 1).toInt ∧ (h.1 (108 + 2 * k.toNat) 1).toInt = (h.1 128 k.toNat).toInt := by
        rcases j1 with j | ⟨j, e⟩
        · exact Or.inl j
        · exact Or.inr ⟨j, by rw [e]⟩
      rw [← whl_same lane kk.2.2.1] at b2
      have hm : m1 = m2 := by (first | decide +kernel | omega)
      subst hm
      have wb := whl_b (t := (h.1 (108 + 2 * k.toNat) 1).toInt) (s := (h.1 (108 + 2 * k.toNat) 2).toInt) (l := l) (f := f) (n := n) kk.2.2.2
      rw [← a2] at wb
      have sz2 : (h.1 (108 + 2 * k.toNat) 2).toInt ≤ 40 := by rw [j2]; exact sz.2
      rw [m1' 116 4 (by (first | decide +kernel | omega)) (by (first | decide +kernel | omega)), m1' 116 5 (by (first | decide +kernel | omega)) (by (first | decide +kernel | omega)), ← show h.1 1 2 = h.1 116 4 from JA_wh ra (i := 2) (by decide), ← show h.1 1 3 = h.1 116 5 from JA_wh ra (i := 3) (by decide)] at b3
      have b5 := RO_cg (l2 := h.1 5) (w2 := h.1 2) (p2 := h.1 8) (b2 := h.1 6) (s2 := h.1 (109 + 2 * k.toNat)) hW
        (fun i hi => by show h1.1 117 (48 + i) = h.1 5 i; rw [m1' 117 _ (by (first | decide +kernel | omega)) (by (first | decide +kernel | omega))]; exact (JA_cell ra (dof_5 hi) (by unfold aP; omega) (by (first | decide +kernel | omega))).symm)
        (fun i hi => by show h1.1 117 (0 + i) = h.1 2 i; rw [m1' 117 _ (by (first | decide +kernel | omega)) (by (first | decide +kernel | omega)), Nat.zero_add]; exact (JB_w rb hi).1.symm)
        (fun i hi => by show h1.1 117 (80 + i) = h.1 8 i; rw [m1' 117 _ (by (first | decide +kernel | omega)) (by (first | decide +kernel | omega))]; exact (JB_p rb hi).symm)
        (fun i hi => by show h1.1 117 (64 + i) = h.1 6 i; rw [m1' 117 _ (by (first | decide +kernel | omega)) (by (first | decide +kernel | omega))]; exact (JB_b rb hi).symm)
        (fun j p q => by show h1.1 130 (40 * k.toNat + j) = h.1 (109 + 2 * k.toNat) j; rw [m1' 130 _ (by (first | decide +kernel | omega)) (by (first | decide +kernel | omega))]; exact (j3 j (by (first | decide +kernel | omega))).symm) b3
      obtain ⟨e1, e2, e3⟩ := RO_un hW a3 b5
      refine ⟨JB_rest rb ⟨fun i hi => ?_, fun i hi => ?_, fun i hi => ?_⟩ (fun k i w => ?_), e1⟩
      · rw [Nat.zero_add, Nat.zero_add, c6 2 i (by (first | decide +kernel | omega)), a4 2 i (by unfold cpl; omega) (by (first | decide +kernel | omega)), b4 i (by (first | decide +kernel | omega)), m1' 117 _ (by (first | decide +kernel | omega)) (by (first | decide +kernel | omega))]
        exact JB_w rb hi
      · rw [Nat.zero_add, Nat.zero_add, c6 6 i (by (first | decide +kernel | omega))]
        exact e3 i hi
      · rw [Nat.zero_add, Nat.zero_add, c6 8 i (by (first | decide +kernel | omega))]
        exact e2 i hi
      · by_cases q : k = 117
        · subst q
          rw [b4 _ (by (first | decide +kernel | omega)), m1' 117 _ (by (first | decide +kernel | omega)) (by (first | decide +kernel | omega))]
        · rw [c6 k i (by (first | decide +kernel | omega))]
          by_cases q2 : k = 87
          · subst q2; exact m1' 87 i (by (first | decide +kernel | omega)) (by (first | decide +kernel | omega))
          · exact f1.1 _ _ (ckS_no s1 (by (first | decide +kernel | omega)) (by (first | decide +kernel | omega)))
end
section
def nrw (t : Int) (v x : Int32) : Prop := t = 0 ∧ x = v.toInt8.toInt32 ∨ t = 1 ∧ x = v.toInt16.toInt32 ∨ (t ≠ 0 ∧ t ≠ 1) ∧ x = v
theorem nrw_un {t : Int} {v x y : Int32} (p : nrw t v x) (q : nrw t v y) : x = y := by
  rcases p with ⟨a, b⟩ | ⟨a, b⟩ | ⟨a, b⟩ <;> rcases q with ⟨c, d⟩ | ⟨c, d⟩ | ⟨c, d⟩
  all_goals first | (exact b.trans d.symm) | (exfalso; omega)
def SHc (h h' : Hp) (k : Nat) (l n : Int32) : Prop := ∀ j : Nat, j < 4 → j = k ∧ h'.1 (108 + 2 * j) 1 = l ∧ h'.1 (108 + 2 * j) 2 = n ∧ (∀ i : Nat, i < 40 → h'.1 (109 + 2 * j) i = 0) ∨ j ≠ k ∧ h'.1 (108 + 2 * j) 1 = h.1 (108 + 2 * j) 1 ∧ h'.1 (108 + 2 * j) 2 = h.1 (108 + 2 * j) 2 ∧ ∀ i : Nat, i < 40 → h'.1 (109 + 2 * j) i = h.1 (109 + 2 * j) i
def shS (S : List (Nat × Option Nat)) (k : Nat) : Bool := S.all (fun q => decide (q.1 = 108 + 2 * k ∨ q.1 = 109 + 2 * k))
theorem shS_no {S : List (Nat × Option Nat)} {k : Nat} (hc : shS S k = true) {a i : Nat} (ha : a ≠ 108 + 2 * k ∧ a ≠ 109 + 2 * k) : inS S a i = false := by
  unfold inS
  rw [List.any_eq_false]
  intro q hq e
  have h1 := of_decide_eq_true (List.all_eq_true.mp hc q hq)
  rw [Bool.and_eq_true] at e
  have e2 : q.1 = a := eq_of_beq e.1
  omega
theorem SHc_of {S : List (Nat × Option Nat)} {h h' : Hp} {k : Nat} {l n : Int32} (e : h'.1 (108 + 2 * k) 1 = l ∧ h'.1 (108 + 2 * k) 2 = n ∧ fll h' (109 + 2 * k) 0 40) (f : fr S h h') (ck : shS S k = true) : SHc h h' k l n := fun j hj => by
  by_cases q : j = k
  · subst q
    exact Or.inl ⟨rfl, e.1, e.2.1, fun i hi => e.2.2 i (by (first | decide +kernel | omega))⟩
  · exact Or.inr ⟨q, f.1 _ _ (shS_no ck (by (first | decide +kernel | omega))), f.1 _ _ (shS_no ck (by (first | decide +kernel | omega))), fun i _ => f.1 _ _ (shS_no ck (by (first | decide +kernel | omega)))⟩
def SHl (h h' : Hp) (k : Nat) (l n : Int32) (m : Int) : Prop := (∀ j : Nat, h'.1 128 j = if j = k then l else h.1 128 j) ∧ (∀ j : Nat, h'.1 129 j = if j = k then n else h.1 129 j) ∧ ∀ i : Nat, h'.1 130 i = if 40 * k ≤ i ∧ (i : Int) < 40 * (k : Int) + m then 0 else h.1 130 i
theorem SHl_0 {h h1 h2 : Hp} {K : Int} {l n : Int32} (e1 : h1 = pI h 128 K.toNat l) (e2 : h2 = pI h1 129 K.toNat n) : SHl h h2 K.toNat l n 0 := by
  refine ⟨fun j => ?_, fun j => ?_, fun i => ?_⟩
  · rw [e2, pI_at, if_neg (by (first | decide +kernel | omega)), e1, pI_at]
    by_cases q : j = K.toNat
    · rw [if_pos ⟨rfl, q⟩, if_pos q]
    · rw [if_neg (by (first | decide +kernel | omega)), if_neg q]
  · rw [e2, pI_at]
    by_cases q : j = K.toNat
    · rw [if_pos ⟨rfl, q⟩, if_pos q]
    · rw [if_neg (by (first | decide +kernel | omega)), if_neg q, e1, pI_at, if_neg (by (first | decide +kernel | omega))]
  · rw [e2, pI_at, if_neg (by (first | decide +kernel | omega)), e1, pI_at, if_neg (by (first | decide +kernel | omega)), if_neg (by (first | decide +kernel | omega))]
theorem SHl_s {h h1 h2 : Hp} {K m : Int} {l n : Int32} (r : SHl h h1 K.toNat l n m) (hk : 0 ≤ K) (hm : 0 ≤ m) (e : h2 = pI h1 130 (40 * K + m).toNat 0) : SHl h h2 K.toNat l n (m + 1) := by
  refine ⟨fun j => ?_, fun j => ?_, fun i => ?_⟩
  · rw [e, pI_at, if_neg (by (first | decide +kernel | omega))]; exact r.1 j
  · rw [e, pI_at, if_neg (by (first | decide +kernel | omega))]; exact r.2.1 j
  · rw [e, pI_at]
    by_cases q : i = (40 * K + m).toNat
    · rw [if_pos ⟨rfl, q⟩, if_pos (by (first | decide +kernel | omega))]
    · rw [if_neg (by (first | decide +kernel | omega)), r.2.2 i]
      by_cases w : 40 * K.toNat ≤ i ∧ (i : Int) < 40 * (K.toNat : Int) + m
      · rw [if_pos w, if_pos (by (first | decide +kernel | omega))]
      · rw [if_neg w, if_neg (by (first | decide +kernel | omega))]
theorem SHl_le {h h' : Hp} {k : Nat} {l n : Int32} {m : Int} (r : SHl h h' k l n m) (hm : m = 40) : SHl h h' k l n 40 := by subst hm; exact r
/-- lay -/
def LY (no : Int) (h h' : Hp) (t s : Int) (kr ir : Nat) (i : Int) (v r : Int32) : Prop := t = no ∧ h' = h ∧ r.toInt = -11 ∨ t ≠ no ∧ (i < 0 ∨ s ≤ i) ∧ h' = h ∧ r.toInt = -12 ∨ t ≠ no ∧ 0 ≤ i ∧ i < s ∧ r.toInt = 1 ∧ ∃ x : Int32, nrw t v x ∧ h' = pI h kr ir x
def jsC (k i : Nat) : Prop := 108 ≤ k ∧ k ≤ 115 ∨ k = 128 ∨ k = 129 ∨ k = 130
theorem JS_at {h h' : Hp} (e : ∀ k i : Nat, jsC k i → h'.1 k i = h.1 k i) (r : JS h) : JS h' := fun j hj => by
  obtain ⟨r1, r2, r3⟩ := r j hj
  refine ⟨?_, ?_, fun i hi => ?_⟩
  · rw [e _ _ (by unfold jsC; omega), e _ _ (by unfold jsC; omega)]; exact r1
  · rw [e _ _ (by unfold jsC; omega), e _ _ (by unfold jsC; omega)]; exact r2
  · rw [e _ _ (by unfold jsC; omega), e _ _ (by unfold jsC; omega)]; exact r3 i hi
def jsS (S : List (Nat × Option Nat)) : Bool := S.all (fun q => decide ((q.1 < 108 ∨ 115 < q.1) ∧ q.1 ≠ 128 ∧ q.1 ≠ 129 ∧ q.1 ≠ 130))
theorem jsS_no {S : List (Nat × Option Nat)} (hc : jsS S = true) {k i : Nat} (hk : jsC k i) : inS S k i = false := by
  unfold inS
  rw [List.any_eq_false]
  intro q hq e
  have h1 := of_decide_eq_true (List.all_eq_true.mp hc q hq)
  rw [Bool.and_eq_true] at e
  have e2 : q.1 = k := eq_of_beq e.1
  unfold jsC at hk
  omega
theorem JS_fr {S : List (Nat × Option Nat)} {h h' : Hp} (f : fr S h h') (hc : jsS S = true) (r : JS h) : JS h' := JS_at (fun _ _ hk => f.1 _ _ (jsS_no hc hk)) r
theorem JS_sheet {S1 S2 : List (Nat × Option Nat)} {h h1 h2 : Hp} {k nn : Int} {l n r1 r2 : Int32} {B : Prop} (r : JS h) (f1 : fr S1 h h1) (f2 : fr S2 h1 h2) (s1 : ckS S1 116 131 = true) (s2 : ckS S2 0 127 = true) (hl : ¬ B → 0 ≤ l.toInt)
    (E1 : B ∧ h1 = h ∧ r1.toInt = -1 ∨ ¬ B ∧ nn < 0 ∧ h1 = h ∧ r1.toInt = -14 ∨ ¬ B ∧ 0 ≤ nn ∧ SHc h h1 k.toNat l n ∧ r1.toInt = 1) (E2 : B ∧ h2 = h1 ∧ r2.toInt = -1 ∨ ¬ B ∧ nn < 0 ∧ h2 = h1 ∧ r2.toInt = -14 ∨ ¬ B ∧ 0 ≤ nn ∧ SHl h1 h2 k.toNat l n 40 ∧ r2.toInt = 1) : JS h2 ∧ r1 = r2 := by
  rcases E1 with ⟨a1, a2, a3⟩ | ⟨a1, a2, a3, a4⟩ | ⟨a1, a2, a3, a4⟩
  · rcases E2 with ⟨b1, b2, b3⟩ | ⟨b1, b2, b3, b4⟩ | ⟨b1, b2, b3, b4⟩
    · rw [b2, a2]; exact ⟨r, same_of a3 b3⟩
    · exact absurd a1 b1
    · exact absurd a1 b1
  · rcases E2 with ⟨b1, b2, b3⟩ | ⟨b1, b2, b3, b4⟩ | ⟨b1, b2, b3, b4⟩
    · exact absurd b1 a1
    · rw [b3, a3]; exact ⟨r, same_of a4 b4⟩
    · omega
  · rcases E2 with ⟨b1, b2, b3⟩ | ⟨b1, b2, b3, b4⟩ | ⟨b1, b2, b3, b4⟩
    · exact absurd b1 a1
    · omega
    · refine ⟨fun j hj => ?_, same_of a4 b4⟩
      have m1 : ∀ k i : Nat, 116 ≤ k → k ≤ 131 → h1.1 k i = h.1 k i := fun k i p q => f1.1 _ _ (ckS_no s1 p q)
      have c6 : ∀ k i : Nat, k ≤ 127 → h2.1 k i = h1.1 k i := fun k i p => f2.1 _ _ (ckS_no s2 (by (first | decide +kernel | omega)) p)
      obtain ⟨r3, r4, r5⟩ := r j hj
      have hl' := hl a1
      rw [c6 (108 + 2 * j) 1 (by (first | decide +kernel | omega)), c6 (108 + 2 * j) 2 (by (first | decide +kernel | omega)), b3.1, b3.2.1]
      rcases a3 j hj with ⟨q, w1, w2, w3⟩ | ⟨q, w1, w2, w3⟩
      · rw [if_pos q, if_pos q, w1, w2]
        refine ⟨Or.inr ⟨hl', rfl⟩, rfl, fun i hi => ?_⟩
        rw [c6 (109 + 2 * j) i (by (first | decide +kernel | omega)), w3 i hi, b3.2.2, if_pos (by (first | decide +kernel | omega))]
      · rw [if_neg q, if_neg q, w1, w2, m1 128 j (by (first | decide +kernel | omega)) (by (first | decide +kernel | omega)), m1 129 j (by (first | decide +kernel | omega)) (by (first | decide +kernel | omega))]
        refine ⟨r3, r4, fun i hi => ?_⟩
        rw [c6 (109 + 2 * j) i (by (first | decide +kernel | omega)), w3 i hi, b3.2.2, if_neg (by (first | decide +kernel | omega)), m1 _ _ (by (first | decide +kernel | omega)) (by (first | decide +kernel | omega))]
        exact r5 i hi
theorem JS_lay {h h1 h2 : Hp} {k i : Int} {v r1 r2 : Int32} (hI : Inv h) (r : JS h)
    (E1 : (k < 0 ∨ 3 < k) ∧ h1 = h ∧ r1.toInt = -1 ∨ ¬ (k < 0 ∨ 3 < k) ∧ LY (-1) h h1 (h.1 (108 + 2 * k.toNat) 1).toInt (h.1 (108 + 2 * k.toNat) 2).toInt (109 + 2 * k.toNat) i.toNat i v r1) (E2 : (k < 0 ∨ 3 < k) ∧ h2 = h1 ∧ r2.toInt = -1 ∨ ¬ (k < 0 ∨ 3 < k) ∧ LY (-4) h1 h2 (h1.1 128 k.toNat).toInt (h1.1 129 k.toNat).toInt 130 (40 * k + i).toNat i v r2) : JS h2 ∧ r1 = r2 := by
  rcases E1 with ⟨a1, a2, a3⟩ | ⟨a1, a2⟩
  · rcases E2 with ⟨b1, b2, b3⟩ | ⟨b1, b2⟩
    · rw [b2, a2]; exact ⟨r, same_of a3 b3⟩
    · exact absurd a1 b1
  · rcases E2 with ⟨b1, b2, b3⟩ | ⟨b1, b2⟩
    · exact absurd b1 a1
    · have hk : 0 ≤ k ∧ k ≤ 3 := by (first | decide +kernel | omega)
      obtain ⟨r3, r4, r5⟩ := r k.toNat (by (first | decide +kernel | omega))
      have sz : 0 ≤ (h.1 129 k.toNat).toInt ∧ (h.1 129 k.toNat).toInt ≤ 40 := hI 129 k.toNat
      have e8 : h1.1 128 k.toNat = h.1 128 k.toNat := by
        rcases a2 with ⟨_, e, _⟩ | ⟨_, _, e, _⟩ | ⟨_, _, _, _, x, _, e⟩
        · rw [e]
        · rw [e]
        · rw [e, pI_at, if_neg (by (first | decide +kernel | omega))]
      have e9 : h1.1 129 k.toNat = h.1 129 k.toNat := by
        rcases a2 with ⟨_, e, _⟩ | ⟨_, _, e, _⟩ | ⟨_, _, _, _, x, _, e⟩
        · rw [e]
        · rw [e]
        · rw [e, pI_at, if_neg (by (first | decide +kernel | omega))]
      rw [e8, e9, ← r4] at b2
      have hz : (h.1 (108 + 2 * k.toNat) 2).toInt ≤ 40 := by rw [r4]; exact sz.2
      rcases a2 with ⟨c1, c2, c3⟩ | ⟨c1, c2, c3, c4⟩ | ⟨c1, c2, c3, c4, x, c5, c6⟩
      · rcases b2 with ⟨d1, d2, d3⟩ | ⟨d1, d2, d3, d4⟩ | ⟨d1, d2, d3, d4, y, d5, d6⟩
        · rw [d2, c2]; exact ⟨r, same_of c3 d3⟩
        · exfalso
          rcases r3 with q | q
          · omega
          · omega
        · exfalso
          rcases r3 with q | q
          · omega
          · omega
      · rcases b2 with ⟨d1, d2, d3⟩ | ⟨d1, d2, d3, d4⟩ | ⟨d1, d2, d3, d4, y, d5, d6⟩
        · exfalso
          rcases r3 with q | ⟨q, e⟩
          · omega
          · rw [e] at q; omega
        · rw [d3, c3]; exact ⟨r, same_of c4 d4⟩
        · omega
      · rcases b2 with ⟨d1, d2, d3⟩ | ⟨d1, d2, d3, d4⟩ | ⟨d1, d2, d3, d4, y, d5, d6⟩
        · exfalso
          rcases r3 with q | ⟨q, e⟩
          · omega
          · rw [e] at q; omega
        · omega
        · have et : (h.1 (108 + 2 * k.toNat) 1).toInt = (h.1 128 k.toNat).toInt := by
            rcases r3 with q | ⟨_, e⟩
            · exact absurd q.1 c1
            · rw [e]
          rw [et] at c5
          have exy := nrw_un c5 d5
          subst exy
          refine ⟨fun j hj => ?_, same_of c4 d4⟩
          obtain ⟨r6, r7, r8⟩ := r j hj
          rw [d6, pI_at, if_neg (by (first | decide +kernel | omega)), pI_at, if_neg (by (first | decide +kernel | omega)), pI_at, if_neg (by (first | decide +kernel | omega)), pI_at, if_neg (by (first | decide +kernel | omega)), c6, pI_at, if_neg (by (first | decide +kernel | omega)), pI_at, if_neg (by (first | decide +kernel | omega)), pI_at, if_neg (by (first | decide +kernel | omega)), pI_at, if_neg (by (first | decide +kernel | omega))]
          refine ⟨r6, r7, fun i' hi' => ?_⟩
          rw [pI_at, if_neg (by (first | decide +kernel | omega)), pI_at, pI_at]
          by_cases q : j = k.toNat ∧ i' = i.toNat
          · rw [if_pos (by (first | decide +kernel | omega)), if_pos (by (first | decide +kernel | omega))]
          · rw [if_neg (by (first | decide +kernel | omega)), if_neg (by (first | decide +kernel | omega)), pI_at, if_neg (by (first | decide +kernel | omega))]
            exact r8 i' hi'
end
