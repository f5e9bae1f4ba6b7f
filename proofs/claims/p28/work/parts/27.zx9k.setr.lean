section
abbrev q_Land_besideX_0 (h : Hp) (c : Int32) (cZ : Int) (a : Int32) (aZ : Int) (w : Int32) (wZ : Int) (g : Int32) (gZ : Int) : Option Value → Hp → Prop := pInt (fun r h' => h = h' ∧ (r.toInt = bsd wZ gZ cZ aZ.toNat))
set_option maxRecDepth 100000 in
theorem c_Land_besideX_0 (h : Hp) (hI : Inv h) (c : Int32) (cZ : Int) (cE : c.toInt = cZ) (a : Int32) (aZ : Int) (aE : a.toInt = aZ) (w : Int32) (wZ : Int) (wE : w.toInt = wZ) (wK : h.1 1 0 = w) (g : Int32) (gZ : Int) (gE : g.toInt = gZ) (gK : h.1 1 1 = g) (hy0 : 0 ≤ cZ ∧ cZ < wZ * gZ) (hy1 : 0 ≤ aZ ∧ aZ ≤ 3) : Ct y_Land_beside b_Land_beside 4 (some .int) 2 41 [.ref 1, .int c, .int a] h (q_Land_besideX_0 h c cZ a aZ w wZ g gZ) := by
  refine ct_ow R_Land [some (.ref 1), some (.int c), some (.int a), none] rfl (by decide) rfl (Nat.le_of_ble_eq_true rfl) ?_
  have f0 : fr [] h h := fr_rf
  have g1 : 2 ≤ wZ ∧ wZ ≤ 4 := inv_at hI wE wK.symm rfl
  have g2 : 2 ≤ gZ ∧ gZ ≤ 4 := inv_at hI gE gK.symm rfl
  have m24 := mul24 (A := wZ) (B := gZ) (by (first | decide +kernel | omega)) (by (first | decide +kernel | omega))
  refine V_aload_n 0 d_Land_beside_0 rfl rfl ?_
  refine V_iload_n 1 d_Land_beside_1 rfl rfl ?_
  refine N_callVI [.int c] [] cv_Land_75 sk_1 rfl d_Land_beside_2 rfl (Nat.le_of_ble_eq_true rfl) (by decide) (by decide) (c_Land_hasX_0 h hI c cZ cE w wZ wE wK g gZ gE gK) (fun z3 h4 z3Z z3E p5 => ?_)
  obtain ⟨eh4, p5⟩ := p5
  subst eh4
  refine V_if_ne 10 z3E d_Land_beside_5 (by decide) (fun c6 => ?_) (fun c6 => ?_)
  ·
    refine V_iload_n 1 d_Land_beside_10 rfl rfl ?_
    refine V_aload_n 0 d_Land_beside_11 rfl rfl ?_
    refine N_getK fa_Land_27 sk_1 rfl d_Land_beside_12 wK ?_
    refine N_irem cE wE (by (first | decide +kernel | omega)) d_Land_beside_15 (fun z7 z7e z7E => ?_)
    obtain ⟨z7Z, z7G⟩ : ∃ Y : Int, Y = cZ % wZ := ⟨_, rfl⟩
    rw [← z7G] at z7E
    have g8 : 0 ≤ z7Z ∧ z7Z < wZ := by rw [z7G]; exact ⟨Int.emod_nonneg _ (by (first | decide +kernel | omega)), Int.emod_lt_of_pos _ (by (first | decide +kernel | omega))⟩
    have hcol : z7Z = cZ % wZ := z7G
    refine V_istore_n 3 [some (.ref 1), some (.int c), some (.int a), some (.int z7)] d_Land_beside_16 rfl (by decide) rfl rfl ?_
    refine V_iload_n 2 d_Land_beside_17 rfl rfl ?_
    rcases (by (first | decide +kernel | omega) : (aZ < 0 ∨ 2 < aZ) ∨ aZ = 0 ∨ aZ = 1 ∨ aZ = 2) with c9 | c9 | c9 | c9
    ·
      refine V_tabOut 93 aE d_Land_beside_18 c9 (by decide) ?_
      refine V_aload_n 0 d_Land_beside_93 rfl rfl ?_
      refine V_iload_n 1 d_Land_beside_94 rfl rfl ?_
      refine V_aload_n 0 d_Land_beside_95 rfl rfl ?_
      refine N_getK fa_Land_27 sk_1 rfl d_Land_beside_96 wK ?_
      refine V_iadd cE wE (by (first | decide +kernel | omega)) d_Land_beside_99 (fun z10 z10e z10E => ?_)
      refine N_callVI [.int z10] [] cv_Land_75 sk_1 rfl d_Land_beside_100 rfl (Nat.le_of_ble_eq_true rfl) (by decide) (by decide) (c_Land_hasX_0 h hI z10 ((cZ + wZ)) z10E w wZ wE wK g gZ gE gK) (fun z11 h12 z11Z z11E p13 => ?_)
      obtain ⟨eh12, p13⟩ := p13
      subst eh12
      refine V_if_eq 115 z11E d_Land_beside_103 (by decide) (fun c14 => ?_) (fun c14 => ?_)
      ·
        refine V_iconst (-1) d_Land_beside_115 (by decide) ?_
        exact V_iret rfl d_Land_beside_116 ⟨(-1), rfl, ⟨rfl, (by rw [show Int32.toInt (-1) = (-1) from rfl]; rw [show aZ.toNat = 3 by (first | decide +kernel | omega)]; unfold bsd; rw [if_neg (by decide), if_neg (by decide), if_neg (by decide)]; rw [if_neg (by (first | decide +kernel | omega))])⟩⟩
      ·
        refine V_iload_n 1 d_Land_beside_106 rfl rfl ?_
        refine V_aload_n 0 d_Land_beside_107 rfl rfl ?_
        refine N_getK fa_Land_27 sk_1 rfl d_Land_beside_108 wK ?_
        refine V_iadd cE wE (by (first | decide +kernel | omega)) d_Land_beside_111 (fun z15 z15e z15E => ?_)
        refine V_goto 116 d_Land_beside_112 (by decide) ?_
        exact V_iret rfl d_Land_beside_116 ⟨z15, rfl, ⟨rfl, (by rw [z15E]; rw [show aZ.toNat = 3 by (first | decide +kernel | omega)]; unfold bsd; rw [if_neg (by decide), if_neg (by decide), if_neg (by decide)]; rw [if_pos (by (first | decide +kernel | omega))])⟩⟩
    ·
      refine V_tabIn 44 aE d_Land_beside_18 (by (first | decide +kernel | omega)) (by (first | decide +kernel | omega)) (by rw [c9]; rfl) (by decide) ?_
      refine V_iload_n 1 d_Land_beside_44 rfl rfl ?_
      refine V_aload_n 0 d_Land_beside_45 rfl rfl ?_
      refine N_getK fa_Land_27 sk_1 rfl d_Land_beside_46 wK ?_
      refine V_icmp_lt 61 cE wE d_Land_beside_49 (by decide) (fun c16 => ?_) (fun c16 => ?_)
      ·
        refine V_iconst (-1) d_Land_beside_61 (by decide) ?_
        exact V_iret rfl d_Land_beside_62 ⟨(-1), rfl, ⟨rfl, (by rw [show Int32.toInt (-1) = (-1) from rfl]; rw [show aZ.toNat = 0 by (first | decide +kernel | omega)]; unfold bsd; rw [if_pos rfl]; rw [if_neg (by (first | decide +kernel | omega))])⟩⟩
      ·
        refine V_iload_n 1 d_Land_beside_52 rfl rfl ?_
        refine V_aload_n 0 d_Land_beside_53 rfl rfl ?_
        refine N_getK fa_Land_27 sk_1 rfl d_Land_beside_54 wK ?_
        refine V_isub cE wE (by (first | decide +kernel | omega)) d_Land_beside_57 (fun z17 z17e z17E => ?_)
        refine V_goto 62 d_Land_beside_58 (by decide) ?_
        exact V_iret rfl d_Land_beside_62 ⟨z17, rfl, ⟨rfl, (by rw [z17E]; rw [show aZ.toNat = 0 by (first | decide +kernel | omega)]; unfold bsd; rw [if_pos rfl]; rw [if_pos (by (first | decide +kernel | omega))])⟩⟩
    ·
      refine V_tabIn 63 aE d_Land_beside_18 (by (first | decide +kernel | omega)) (by (first | decide +kernel | omega)) (by rw [c9]; rfl) (by decide) ?_
      refine V_iload_n 3 d_Land_beside_63 rfl rfl ?_
      refine V_if_le 73 z7E d_Land_beside_64 (by decide) (fun c18 => ?_) (fun c18 => ?_)
      ·
        refine V_iconst (-1) d_Land_beside_73 (by decide) ?_
        exact V_iret rfl d_Land_beside_74 ⟨(-1), rfl, ⟨rfl, (by rw [show Int32.toInt (-1) = (-1) from rfl]; rw [show aZ.toNat = 1 by (first | decide +kernel | omega)]; unfold bsd; rw [if_neg (by decide), if_pos rfl, ← hcol]; rw [if_neg (by (first | decide +kernel | omega))])⟩⟩
      ·
        refine V_iload_n 1 d_Land_beside_67 rfl rfl ?_
        refine V_iconst 1 d_Land_beside_68 (by decide) ?_
        refine V_isub cE tc_1 (by (first | decide +kernel | omega)) d_Land_beside_69 (fun z19 z19e z19E => ?_)
        refine V_goto 74 d_Land_beside_70 (by decide) ?_
        exact V_iret rfl d_Land_beside_74 ⟨z19, rfl, ⟨rfl, (by rw [z19E]; rw [show aZ.toNat = 1 by (first | decide +kernel | omega)]; unfold bsd; rw [if_neg (by decide), if_pos rfl, ← hcol]; rw [if_pos (by (first | decide +kernel | omega))])⟩⟩
    ·
      refine V_tabIn 75 aE d_Land_beside_18 (by (first | decide +kernel | omega)) (by (first | decide +kernel | omega)) (by rw [c9]; rfl) (by decide) ?_
      refine V_iload_n 3 d_Land_beside_75 rfl rfl ?_
      refine V_aload_n 0 d_Land_beside_76 rfl rfl ?_
      refine N_getK fa_Land_27 sk_1 rfl d_Land_beside_77 wK ?_
      refine V_iconst 1 d_Land_beside_80 (by decide) ?_
      refine V_isub wE tc_1 (by (first | decide +kernel | omega)) d_Land_beside_81 (fun z20 z20e z20E => ?_)
      refine V_icmp_ge 91 z7E z20E d_Land_beside_82 (by decide) (fun c21 => ?_) (fun c21 => ?_)
      ·
        refine V_iconst (-1) d_Land_beside_91 (by decide) ?_
        exact V_iret rfl d_Land_beside_92 ⟨(-1), rfl, ⟨rfl, (by rw [show Int32.toInt (-1) = (-1) from rfl]; rw [show aZ.toNat = 2 by (first | decide +kernel | omega)]; unfold bsd; rw [if_neg (by decide), if_neg (by decide), if_pos rfl, ← hcol]; rw [if_neg (by (first | decide +kernel | omega))])⟩⟩
      ·
        refine V_iload_n 1 d_Land_beside_85 rfl rfl ?_
        refine V_iconst 1 d_Land_beside_86 (by decide) ?_
        refine V_iadd cE tc_1 (by (first | decide +kernel | omega)) d_Land_beside_87 (fun z22 z22e z22E => ?_)
        refine V_goto 92 d_Land_beside_88 (by decide) ?_
        exact V_iret rfl d_Land_beside_92 ⟨z22, rfl, ⟨rfl, (by rw [z22E]; rw [show aZ.toNat = 2 by (first | decide +kernel | omega)]; unfold bsd; rw [if_neg (by decide), if_neg (by decide), if_pos rfl, ← hcol]; rw [if_pos (by (first | decide +kernel | omega))])⟩⟩
  ·
    exact absurd c6 (by (first | decide +kernel | omega))
abbrev q_Mod_besideX (h : Hp) (c : Int32) (cZ : Int) (a : Int32) (aZ : Int) (w : Int32) (wZ : Int) (g : Int32) (gZ : Int) : Option Value → Hp → Prop := pInt (fun r h' => h = h' ∧ (r.toInt = mb (bsd wZ gZ cZ aZ.toNat)))
set_option maxRecDepth 100000 in
theorem c_Mod_besideX (h : Hp) (hI : Inv h) (c : Int32) (cZ : Int) (cE : c.toInt = cZ) (a : Int32) (aZ : Int) (aE : a.toInt = aZ) (w : Int32) (wZ : Int) (wE : w.toInt = wZ) (wK : h.1 116 2 = w) (g : Int32) (gZ : Int) (gE : g.toInt = gZ) (gK : h.1 116 3 = g) (hy0 : 0 ≤ cZ ∧ cZ < wZ * gZ) (hy1 : 0 ≤ aZ ∧ aZ ≤ 3) : Ct y_Mod_beside b_Mod_beside 4 (some .int) 1 20 [.ref 116, .int c, .int a] h (q_Mod_besideX h c cZ a aZ w wZ g gZ) := by
  refine ct_ow R_Mod [some (.ref 116), some (.int c), some (.int a), none] rfl (by decide) rfl (Nat.le_of_ble_eq_true rfl) ?_
  have f0 : fr [] h h := fr_rf
  have g1 : 2 ≤ wZ ∧ wZ ≤ 4 := inv_at hI wE wK.symm rfl
  have g2 : 2 ≤ gZ ∧ gZ ≤ 4 := inv_at hI gE gK.symm rfl
  have m24 := mul24 (A := wZ) (B := gZ) (by (first | decide +kernel | omega)) (by (first | decide +kernel | omega))
  refine V_iload_n 1 d_Mod_beside_0 rfl rfl ?_
  refine V_aload_n 0 d_Mod_beside_1 rfl rfl ?_
  refine N_getK fa_Mod_81 sk_116 rfl d_Mod_beside_2 wK ?_
  refine N_irem cE wE (by (first | decide +kernel | omega)) d_Mod_beside_5 (fun z3 z3e z3E => ?_)
  obtain ⟨z3Z, z3G⟩ : ∃ Y : Int, Y = cZ % wZ := ⟨_, rfl⟩
  rw [← z3G] at z3E
  have g4 : 0 ≤ z3Z ∧ z3Z < wZ := by rw [z3G]; exact ⟨Int.emod_nonneg _ (by (first | decide +kernel | omega)), Int.emod_lt_of_pos _ (by (first | decide +kernel | omega))⟩
  have hcol : z3Z = cZ % wZ := z3G
  refine V_istore_n 3 [some (.ref 116), some (.int c), some (.int a), some (.int z3)] d_Mod_beside_6 rfl (by decide) rfl rfl ?_
  refine V_iload_n 2 d_Mod_beside_7 rfl rfl ?_
  rcases (by (first | decide +kernel | omega) : (aZ < 0 ∨ 2 < aZ) ∨ aZ = 0 ∨ aZ = 1 ∨ aZ = 2) with c5 | c5 | c5 | c5
  ·
    refine V_tabOut 88 aE d_Mod_beside_8 c5 (by decide) ?_
    refine V_iload_n 1 d_Mod_beside_88 rfl rfl ?_
    refine V_aload_n 0 d_Mod_beside_89 rfl rfl ?_
    refine N_getK fa_Mod_81 sk_116 rfl d_Mod_beside_90 wK ?_
    refine V_iadd cE wE (by (first | decide +kernel | omega)) d_Mod_beside_93 (fun z6 z6e z6E => ?_)
    refine V_aload_n 0 d_Mod_beside_94 rfl rfl ?_
    refine N_callVI [] [.int z6] cv_Mod_183 sk_116 rfl d_Mod_beside_95 rfl (Nat.le_of_ble_eq_true rfl) (by decide) (by decide) (c_Mod_cellMany h hI w wZ wE wK g gZ gE gK) (fun z7 h8 z7Z z7E p9 => ?_)
    obtain ⟨eh8, p9⟩ := p9
    subst eh8
    refine V_icmp_ge 110 z6E z7E d_Mod_beside_98 (by decide) (fun c10 => ?_) (fun c10 => ?_)
    ·
      refine V_bipush (-4) d_Mod_beside_110 (by decide) ?_
      exact V_iret rfl d_Mod_beside_112 ⟨(-4), rfl, ⟨rfl, (by rw [show Int32.toInt (-4) = (-4) from rfl]; rw [show aZ.toNat = 3 by (first | decide +kernel | omega)]; unfold bsd; rw [if_neg (by decide), if_neg (by decide), if_neg (by decide)]; rw [if_neg (by (first | decide +kernel | omega))]; unfold mb; rw [if_pos (by (first | decide +kernel | omega))])⟩⟩
    ·
      refine V_iload_n 1 d_Mod_beside_101 rfl rfl ?_
      refine V_aload_n 0 d_Mod_beside_102 rfl rfl ?_
      refine N_getK fa_Mod_81 sk_116 rfl d_Mod_beside_103 wK ?_
      refine V_iadd cE wE (by (first | decide +kernel | omega)) d_Mod_beside_106 (fun z11 z11e z11E => ?_)
      refine V_goto 112 d_Mod_beside_107 (by decide) ?_
      exact V_iret rfl d_Mod_beside_112 ⟨z11, rfl, ⟨rfl, (by rw [z11E]; rw [show aZ.toNat = 3 by (first | decide +kernel | omega)]; unfold bsd; rw [if_neg (by decide), if_neg (by decide), if_neg (by decide)]; rw [if_pos (by (first | decide +kernel | omega))]; unfold mb; rw [if_neg (by (first | decide +kernel | omega))])⟩⟩
  ·
    refine V_tabIn 36 aE d_Mod_beside_8 (by (first | decide +kernel | omega)) (by (first | decide +kernel | omega)) (by rw [c5]; rfl) (by decide) ?_
    refine V_iload_n 1 d_Mod_beside_36 rfl rfl ?_
    refine V_aload_n 0 d_Mod_beside_37 rfl rfl ?_
    refine N_getK fa_Mod_81 sk_116 rfl d_Mod_beside_38 wK ?_
    refine V_icmp_lt 53 cE wE d_Mod_beside_41 (by decide) (fun c12 => ?_) (fun c12 => ?_)
    ·
      refine V_bipush (-4) d_Mod_beside_53 (by decide) ?_
      exact V_iret rfl d_Mod_beside_55 ⟨(-4), rfl, ⟨rfl, (by rw [show Int32.toInt (-4) = (-4) from rfl]; rw [show aZ.toNat = 0 by (first | decide +kernel | omega)]; unfold bsd; rw [if_pos rfl]; rw [if_neg (by (first | decide +kernel | omega))]; unfold mb; rw [if_pos (by (first | decide +kernel | omega))])⟩⟩
    ·
      refine V_iload_n 1 d_Mod_beside_44 rfl rfl ?_
      refine V_aload_n 0 d_Mod_beside_45 rfl rfl ?_
      refine N_getK fa_Mod_81 sk_116 rfl d_Mod_beside_46 wK ?_
      refine V_isub cE wE (by (first | decide +kernel | omega)) d_Mod_beside_49 (fun z13 z13e z13E => ?_)
      refine V_goto 55 d_Mod_beside_50 (by decide) ?_
      exact V_iret rfl d_Mod_beside_55 ⟨z13, rfl, ⟨rfl, (by rw [z13E]; rw [show aZ.toNat = 0 by (first | decide +kernel | omega)]; unfold bsd; rw [if_pos rfl]; rw [if_pos (by (first | decide +kernel | omega))]; unfold mb; rw [if_neg (by (first | decide +kernel | omega))])⟩⟩
  ·
    refine V_tabIn 56 aE d_Mod_beside_8 (by (first | decide +kernel | omega)) (by (first | decide +kernel | omega)) (by rw [c5]; rfl) (by decide) ?_
    refine V_iload_n 3 d_Mod_beside_56 rfl rfl ?_
    refine V_if_le 66 z3E d_Mod_beside_57 (by decide) (fun c14 => ?_) (fun c14 => ?_)
    ·
      refine V_bipush (-4) d_Mod_beside_66 (by decide) ?_
      exact V_iret rfl d_Mod_beside_68 ⟨(-4), rfl, ⟨rfl, (by rw [show Int32.toInt (-4) = (-4) from rfl]; rw [show aZ.toNat = 1 by (first | decide +kernel | omega)]; unfold bsd; rw [if_neg (by decide), if_pos rfl, ← hcol]; rw [if_neg (by (first | decide +kernel | omega))]; unfold mb; rw [if_pos (by (first | decide +kernel | omega))])⟩⟩
    ·
      have hcp := emod_p (c := cZ) (w := wZ) (by (first | decide +kernel | omega)) (by (first | decide +kernel | omega))
      refine V_iload_n 1 d_Mod_beside_60 rfl rfl ?_
      refine V_iconst 1 d_Mod_beside_61 (by decide) ?_
      refine V_isub cE tc_1 (by (first | decide +kernel | omega)) d_Mod_beside_62 (fun z15 z15e z15E => ?_)
      refine V_goto 68 d_Mod_beside_63 (by decide) ?_
      exact V_iret rfl d_Mod_beside_68 ⟨z15, rfl, ⟨rfl, (by rw [z15E]; rw [show aZ.toNat = 1 by (first | decide +kernel | omega)]; unfold bsd; rw [if_neg (by decide), if_pos rfl, ← hcol]; rw [if_pos (by (first | decide +kernel | omega))]; unfold mb; rw [if_neg (by (first | decide +kernel | omega))])⟩⟩
  ·
    refine V_tabIn 69 aE d_Mod_beside_8 (by (first | decide +kernel | omega)) (by (first | decide +kernel | omega)) (by rw [c5]; rfl) (by decide) ?_
    refine V_iload_n 3 d_Mod_beside_69 rfl rfl ?_
    refine V_iconst 1 d_Mod_beside_70 (by decide) ?_
    refine V_iadd z3E tc_1 (by (first | decide +kernel | omega)) d_Mod_beside_71 (fun z16 z16e z16E => ?_)
    refine V_aload_n 0 d_Mod_beside_72 rfl rfl ?_
    refine N_getK fa_Mod_81 sk_116 rfl d_Mod_beside_73 wK ?_
    refine V_icmp_ge 85 z16E wE d_Mod_beside_76 (by decide) (fun c17 => ?_) (fun c17 => ?_)
    ·
      refine V_bipush (-4) d_Mod_beside_85 (by decide) ?_
      exact V_iret rfl d_Mod_beside_87 ⟨(-4), rfl, ⟨rfl, (by rw [show Int32.toInt (-4) = (-4) from rfl]; rw [show aZ.toNat = 2 by (first | decide +kernel | omega)]; unfold bsd; rw [if_neg (by decide), if_neg (by decide), if_pos rfl, ← hcol]; rw [if_neg (by (first | decide +kernel | omega))]; unfold mb; rw [if_pos (by (first | decide +kernel | omega))])⟩⟩
    ·
      refine V_iload_n 1 d_Mod_beside_79 rfl rfl ?_
      refine V_iconst 1 d_Mod_beside_80 (by decide) ?_
      refine V_iadd cE tc_1 (by (first | decide +kernel | omega)) d_Mod_beside_81 (fun z18 z18e z18E => ?_)
      refine V_goto 87 d_Mod_beside_82 (by decide) ?_
      exact V_iret rfl d_Mod_beside_87 ⟨z18, rfl, ⟨rfl, (by rw [z18E]; rw [show aZ.toNat = 2 by (first | decide +kernel | omega)]; unfold bsd; rw [if_neg (by decide), if_neg (by decide), if_pos rfl, ← hcol]; rw [if_pos (by (first | decide +kernel | omega))]; unfold mb; rw [if_neg (by (first | decide +kernel | omega))])⟩⟩
abbrev q_Walks_bestBesideX (h : Hp) (c : Int32) (cZ : Int) (d : Int32) (dZ : Int) (w : Int32) (wZ : Int) (g : Int32) (gZ : Int) : Option Value → Hp → Prop := pInt (fun r h' => h = h' ∧ (r.toInt = bbN (fun i => (h.1 (95 + dZ.toNat) i).toInt) wZ gZ cZ 4))
set_option maxRecDepth 100000 in
theorem c_Walks_bestBesideX (h : Hp) (hI : Inv h) (c : Int32) (cZ : Int) (cE : c.toInt = cZ) (d : Int32) (dZ : Int) (dE : d.toInt = dZ) (w : Int32) (wZ : Int) (wE : w.toInt = wZ) (wK : h.1 1 0 = w) (g : Int32) (gZ : Int) (gE : g.toInt = gZ) (gK : h.1 1 1 = g) (hy0 : 0 ≤ dZ ∧ dZ ≤ 5) (hy1 : 0 ≤ cZ ∧ cZ < wZ * gZ) : Ct y_Walks_bestBeside b_Walks_bestBeside 7 (some .int) 3 64 [.ref 93, .ref 1, .int c, .int d] h (q_Walks_bestBesideX h c cZ d dZ w wZ g gZ) := by
  refine ct_ow R_Walks [some (.ref 93), some (.ref 1), some (.int c), some (.int d), none, none, none] rfl (by decide) rfl (Nat.le_of_ble_eq_true rfl) ?_
  have f0 : fr [] h h := fr_rf
  have g1 : 2 ≤ wZ ∧ wZ ≤ 4 := inv_at hI wE wK.symm rfl
  have g2 : 2 ≤ gZ ∧ gZ ≤ 4 := inv_at hI gE gK.symm rfl
  have m24 := mul24 (A := wZ) (B := gZ) (by (first | decide +kernel | omega)) (by (first | decide +kernel | omega))
  have bw := (bsd_b (W := wZ) (G := gZ) (c := cZ) (by (first | decide +kernel | omega)) (by (first | decide +kernel | omega)) (by (first | decide +kernel | omega))).1
  refine V_iconst (-1) d_Walks_bestBeside_0 (by decide) ?_
  refine V_istore 4 [some (.ref 93), some (.ref 1), some (.int c), some (.int d), some (.int (-1)), none, none] d_Walks_bestBeside_1 (by decide) rfl rfl ?_
  refine V_iconst 0 d_Walks_bestBeside_3 (by decide) ?_
  refine V_istore 5 [some (.ref 93), some (.ref 1), some (.int c), some (.int d), some (.int (-1)), some (.int 0), none] d_Walks_bestBeside_4 (by decide) rfl rfl ?_
  have L3 : ∀ (nn : Nat) (v5 : Int32) (v5Z : Int) (v6 : Int32) (v6Z : Int), v5.toInt = v5Z → v6.toInt = v6Z → 0 ≤ v6Z ∧ v6Z ≤ 4 → v5Z = bbN (fun i => (h.1 (95 + dZ.toNat) i).toInt) wZ gZ cZ (v6Z).toNat → 4 - v6Z < (nn : Int) → V R_Walks b_Walks_bestBeside 7 (some .int) 3 64 (q_Walks_bestBesideX h c cZ d dZ w wZ g gZ) h 6 [some (.ref 93), some (.ref 1), some (.int c), some (.int d), some (.int v5), some (.int v6), none] [] := by
    intro nn
    induction nn with
    | zero => intro v5 v5Z v6 v6Z v5E v6E q7 q8 hm9; exact absurd hm9 (by (first | decide +kernel | omega))
    | succ nn ihL3 =>
      intro v5 v5Z v6 v6Z v5E v6E q7 q8 hm9
      refine V_iload d_Walks_bestBeside_6 rfl ?_
      refine V_iconst 4 d_Walks_bestBeside_8 (by decide) ?_
      refine V_icmp_ge 62 v6E tc_4 d_Walks_bestBeside_9 (by decide) (fun c10 => ?_) (fun c10 => ?_)
      ·
        refine V_iload d_Walks_bestBeside_62 rfl ?_
        exact V_iret rfl d_Walks_bestBeside_64 ⟨v5, rfl, ⟨rfl, (by rw [v5E, show (4 : Nat) = (v6Z).toNat by (first | decide +kernel | omega)]; assumption)⟩⟩
      ·
        have bq := bbN_b (f := (fun i => (h.1 (95 + dZ.toNat) i).toInt)) (W := wZ) (G := gZ) (c := cZ) (by (first | decide +kernel | omega)) (by (first | decide +kernel | omega)) (by (first | decide +kernel | omega)) (v6Z).toNat (by (first | decide +kernel | omega))
        refine V_aload_n 1 d_Walks_bestBeside_12 rfl rfl ?_
        refine V_iload_n 2 d_Walks_bestBeside_13 rfl rfl ?_
        refine V_iload d_Walks_bestBeside_14 rfl ?_
        refine N_callVI [.int c, .int v6] [] cv_Walks_47 sk_1 rfl d_Walks_bestBeside_16 rfl (Nat.le_of_ble_eq_true rfl) (by decide) (by decide) (c_Land_besideX_0 h hI c cZ cE v6 v6Z v6E w wZ wE wK g gZ gE gK (by (first | decide +kernel | omega)) (by (first | decide +kernel | omega))) (fun z11 h12 z11Z z11E p13 => ?_)
        obtain ⟨eh12, p13⟩ := p13
        subst eh12
        have hk9 : z11Z = bsd wZ gZ cZ (v6Z).toNat := z11E.symm.trans p13
        have bk := bw (v6Z).toNat (by (first | decide +kernel | omega))
        refine V_istore 6 [some (.ref 93), some (.ref 1), some (.int c), some (.int d), some (.int v5), some (.int v6), some (.int z11)] d_Walks_bestBeside_19 (by decide) rfl rfl ?_
        refine V_iload d_Walks_bestBeside_21 rfl ?_
        refine V_if_lt 56 z11E d_Walks_bestBeside_23 (by decide) (fun c14 => ?_) (fun c14 => ?_)
        ·
          have hb9 := bb_n (f := (fun i => (h.1 (95 + dZ.toNat) i).toInt)) (n := v6Z) (by (first | decide +kernel | omega)) hk9 (by assumption) (Or.inl (by (first | decide +kernel | omega)) : _ ∨ _ ∧ (0 : Int) = _ ∧ (0 : Int) = _ ∧ (0 : Int) ≤ 0)
          obtain ⟨z15, z15E, z15e⟩ : ∃ y : Int32, y.toInt = v6Z + 1 ∧ y = v6 + Int32.ofInt 1 := ⟨_, ti_add v6E (by decide) (by (first | decide +kernel | omega)), rfl⟩
          refine V_iinc 5 [some (.ref 93), some (.ref 1), some (.int c), some (.int d), some (.int v5), some (.int z15), some (.int z11)] d_Walks_bestBeside_56 rfl z15e.symm (by decide) rfl rfl ?_
          refine V_goto 6 d_Walks_bestBeside_59 (by decide) ?_
          refine V_drop 6 [some (.ref 93), some (.ref 1), some (.int c), some (.int d), some (.int v5), some (.int z15), none] rfl ?_
          exact ihL3 v5 v5Z z15 ((v6Z + 1)) v5E z15E (by (first | decide +kernel | omega)) hb9 (by (first | decide +kernel | omega))
        ·
          refine V_iload d_Walks_bestBeside_26 rfl ?_
          refine V_if_lt 52 v5E d_Walks_bestBeside_28 (by decide) (fun c16 => ?_) (fun c16 => ?_)
          ·
            refine V_iload d_Walks_bestBeside_52 rfl ?_
            refine V_istore 4 [some (.ref 93), some (.ref 1), some (.int c), some (.int d), some (.int z11), some (.int v6), some (.int z11)] d_Walks_bestBeside_54 (by decide) rfl rfl ?_
            have hb9 := bb_y (f := (fun i => (h.1 (95 + dZ.toNat) i).toInt)) (n := v6Z) (by (first | decide +kernel | omega)) hk9 (by assumption) (by (first | decide +kernel | omega)) (Or.inl (by (first | decide +kernel | omega)) : _ ∨ (0 : Int) = _ ∧ (0 : Int) = _ ∧ (0 : Int) < 0)
            obtain ⟨z17, z17E, z17e⟩ : ∃ y : Int32, y.toInt = v6Z + 1 ∧ y = v6 + Int32.ofInt 1 := ⟨_, ti_add v6E (by decide) (by (first | decide +kernel | omega)), rfl⟩
            refine V_iinc 5 [some (.ref 93), some (.ref 1), some (.int c), some (.int d), some (.int z11), some (.int z17), some (.int z11)] d_Walks_bestBeside_56 rfl z17e.symm (by decide) rfl rfl ?_
            refine V_goto 6 d_Walks_bestBeside_59 (by decide) ?_
            refine V_drop 6 [some (.ref 93), some (.ref 1), some (.int c), some (.int d), some (.int z11), some (.int z17), none] rfl ?_
            exact ihL3 z11 z11Z z17 ((v6Z + 1)) z11E z17E (by (first | decide +kernel | omega)) hb9 (by (first | decide +kernel | omega))
          ·
            refine V_aload_n 0 d_Walks_bestBeside_31 rfl rfl ?_
            refine V_getR fa_Walks_11 sk_93 rfl d_Walks_bestBeside_32 ?_
            refine V_iload_n 3 d_Walks_bestBeside_35 rfl rfl ?_
            refine V_aald (r := (95 + (dZ).toNat)) sk_94 (by decide) dE (by (first | decide +kernel | omega)) (gridAt (by (first | decide +kernel | omega))) d_Walks_bestBeside_36 ?_
            refine V_iload d_Walks_bestBeside_37 rfl ?_
            refine N_iald (gridSk (by (first | decide +kernel | omega))) z11E (by (first | decide +kernel | omega)) d_Walks_bestBeside_39 (fun z18 z18Z z18E z18e => ?_)
            refine V_aload_n 0 d_Walks_bestBeside_40 rfl rfl ?_
            refine V_getR fa_Walks_11 sk_93 rfl d_Walks_bestBeside_41 ?_
            refine V_iload_n 3 d_Walks_bestBeside_44 rfl rfl ?_
            refine V_aald (r := (95 + (dZ).toNat)) sk_94 (by decide) dE (by (first | decide +kernel | omega)) (gridAt (by (first | decide +kernel | omega))) d_Walks_bestBeside_45 ?_
            refine V_iload d_Walks_bestBeside_46 rfl ?_
            refine N_iald (gridSk (by (first | decide +kernel | omega))) v5E (by (first | decide +kernel | omega)) d_Walks_bestBeside_48 (fun z19 z19Z z19E z19e => ?_)
            refine V_icmp_le 56 z18E z19E d_Walks_bestBeside_49 (by decide) (fun c20 => ?_) (fun c20 => ?_)
            ·
              have hb9 := bb_n (f := (fun i => (h.1 (95 + dZ.toNat) i).toInt)) (n := v6Z) (by (first | decide +kernel | omega)) hk9 (by assumption) (Or.inr ⟨by (first | decide +kernel | omega), z19E.symm.trans (congrArg Int32.toInt z19e), z18E.symm.trans (congrArg Int32.toInt z18e), by (first | decide +kernel | omega)⟩)
              obtain ⟨z21, z21E, z21e⟩ : ∃ y : Int32, y.toInt = v6Z + 1 ∧ y = v6 + Int32.ofInt 1 := ⟨_, ti_add v6E (by decide) (by (first | decide +kernel | omega)), rfl⟩
              refine V_iinc 5 [some (.ref 93), some (.ref 1), some (.int c), some (.int d), some (.int v5), some (.int z21), some (.int z11)] d_Walks_bestBeside_56 rfl z21e.symm (by decide) rfl rfl ?_
              refine V_goto 6 d_Walks_bestBeside_59 (by decide) ?_
              refine V_drop 6 [some (.ref 93), some (.ref 1), some (.int c), some (.int d), some (.int v5), some (.int z21), none] rfl ?_
              exact ihL3 v5 v5Z z21 ((v6Z + 1)) v5E z21E (by (first | decide +kernel | omega)) hb9 (by (first | decide +kernel | omega))
            ·
              refine V_iload d_Walks_bestBeside_52 rfl ?_
              refine V_istore 4 [some (.ref 93), some (.ref 1), some (.int c), some (.int d), some (.int z11), some (.int v6), some (.int z11)] d_Walks_bestBeside_54 (by decide) rfl rfl ?_
              have hb9 := bb_y (f := (fun i => (h.1 (95 + dZ.toNat) i).toInt)) (n := v6Z) (by (first | decide +kernel | omega)) hk9 (by assumption) (by (first | decide +kernel | omega)) (Or.inr ⟨z19E.symm.trans (congrArg Int32.toInt z19e), z18E.symm.trans (congrArg Int32.toInt z18e), by (first | decide +kernel | omega)⟩)
              obtain ⟨z22, z22E, z22e⟩ : ∃ y : Int32, y.toInt = v6Z + 1 ∧ y = v6 + Int32.ofInt 1 := ⟨_, ti_add v6E (by decide) (by (first | decide +kernel | omega)), rfl⟩
              refine V_iinc 5 [some (.ref 93), some (.ref 1), some (.int c), some (.int d), some (.int z11), some (.int z22), some (.int z11)] d_Walks_bestBeside_56 rfl z22e.symm (by decide) rfl rfl ?_
              refine V_goto 6 d_Walks_bestBeside_59 (by decide) ?_
              refine V_drop 6 [some (.ref 93), some (.ref 1), some (.int c), some (.int d), some (.int z11), some (.int z22), none] rfl ?_
              exact ihL3 z11 z11Z z22 ((v6Z + 1)) z11E z22E (by (first | decide +kernel | omega)) hb9 (by (first | decide +kernel | omega))
  exact L3 (Int.toNat ((4 - 0 : Int) + 1)) (-1) ((-1)) 0 0 tc_m1 tc_0 (by (first | decide +kernel | omega)) rfl (by (first | decide +kernel | omega))
abbrev q_Mod_bestBesideX (h : Hp) (c : Int32) (cZ : Int) (s : Int32) (sZ : Int) (w : Int32) (wZ : Int) (g : Int32) (gZ : Int) : Option Value → Hp → Prop := pInt (fun r h' => h = h' ∧ (r.toInt = bbN (fun i => (h.1 122 (16 * sZ.toNat + i)).toInt) wZ gZ cZ 4))
set_option maxRecDepth 100000 in
theorem c_Mod_bestBesideX (h : Hp) (hI : Inv h) (c : Int32) (cZ : Int) (cE : c.toInt = cZ) (s : Int32) (sZ : Int) (sE : s.toInt = sZ) (w : Int32) (wZ : Int) (wE : w.toInt = wZ) (wK : h.1 116 2 = w) (g : Int32) (gZ : Int) (gE : g.toInt = gZ) (gK : h.1 116 3 = g) (hy0 : 0 ≤ cZ ∧ cZ < wZ * gZ) (hy1 : 1 ≤ sZ ∧ sZ ≤ 6) : Ct y_Mod_bestBeside b_Mod_bestBeside 6 (some .int) 2 43 [.ref 116, .int c, .int s] h (q_Mod_bestBesideX h c cZ s sZ w wZ g gZ) := by
  refine ct_ow R_Mod [some (.ref 116), some (.int c), some (.int s), none, none, none] rfl (by decide) rfl (Nat.le_of_ble_eq_true rfl) ?_
  have f0 : fr [] h h := fr_rf
  have g1 : 2 ≤ wZ ∧ wZ ≤ 4 := inv_at hI wE wK.symm rfl
  have g2 : 2 ≤ gZ ∧ gZ ≤ 4 := inv_at hI gE gK.symm rfl
  have m24 := mul24 (A := wZ) (B := gZ) (by (first | decide +kernel | omega)) (by (first | decide +kernel | omega))
  have bw := (bsd_b (W := wZ) (G := gZ) (c := cZ) (by (first | decide +kernel | omega)) (by (first | decide +kernel | omega)) (by (first | decide +kernel | omega))).1
  refine V_bipush (-4) d_Mod_bestBeside_0 (by decide) ?_
  refine V_istore_n 3 [some (.ref 116), some (.int c), some (.int s), some (.int (-4)), none, none] d_Mod_bestBeside_2 rfl (by decide) rfl rfl ?_
  refine V_iconst 0 d_Mod_bestBeside_3 (by decide) ?_
  refine V_istore 4 [some (.ref 116), some (.int c), some (.int s), some (.int (-4)), some (.int 0), none] d_Mod_bestBeside_4 (by decide) rfl rfl ?_
  have L3 : ∀ (nn : Nat) (v5 : Int32) (v5Z : Int) (v6 : Int32) (v6Z : Int), v5.toInt = v5Z → v6.toInt = v6Z → 0 ≤ v6Z ∧ v6Z ≤ 4 → v5Z = mb (bbN (fun i => (h.1 122 (16 * sZ.toNat + i)).toInt) wZ gZ cZ (v6Z).toNat) → 4 - v6Z < (nn : Int) → V R_Mod b_Mod_bestBeside 6 (some .int) 2 43 (q_Mod_bestBesideX h c cZ s sZ w wZ g gZ) h 6 [some (.ref 116), some (.int c), some (.int s), some (.int v5), some (.int v6), none] [] := by
    intro nn
    induction nn with
    | zero => intro v5 v5Z v6 v6Z v5E v6E q7 q8 hm9; exact absurd hm9 (by (first | decide +kernel | omega))
    | succ nn ihL3 =>
      intro v5 v5Z v6 v6Z v5E v6E q7 q8 hm9
      refine V_iload d_Mod_bestBeside_6 rfl ?_
      refine V_iconst 4 d_Mod_bestBeside_8 (by decide) ?_
      refine V_icmp_ge 73 v6E tc_4 d_Mod_bestBeside_9 (by decide) (fun c10 => ?_) (fun c10 => ?_)
      ·
        refine V_iload_n 3 d_Mod_bestBeside_73 rfl rfl ?_
        exact V_iret rfl d_Mod_bestBeside_74 ⟨v5, rfl, ⟨rfl, (by have b4 := bbN_4 (f := (fun i => (h.1 122 (16 * sZ.toNat + i)).toInt)) (W := wZ) (G := gZ) (c := cZ) (by (first | decide +kernel | omega)) (by (first | decide +kernel | omega)) (by (first | decide +kernel | omega)); have q9 : v5Z = mb (bbN (fun i => (h.1 122 (16 * sZ.toNat + i)).toInt) wZ gZ cZ 4) := (by rw [show (4 : Nat) = (v6Z).toNat by (first | decide +kernel | omega)]; assumption); rw [v5E, q9]; unfold mb; rw [if_neg (by (first | decide +kernel | omega))])⟩⟩
      ·
        have bq := bbN_b (f := (fun i => (h.1 122 (16 * sZ.toNat + i)).toInt)) (W := wZ) (G := gZ) (c := cZ) (by (first | decide +kernel | omega)) (by (first | decide +kernel | omega)) (by (first | decide +kernel | omega)) (v6Z).toNat (by (first | decide +kernel | omega))
        have mq := mb_s (bbN (fun i => (h.1 122 (16 * sZ.toNat + i)).toInt) wZ gZ cZ (v6Z).toNat)
        refine V_aload_n 0 d_Mod_bestBeside_12 rfl rfl ?_
        refine V_iload_n 1 d_Mod_bestBeside_13 rfl rfl ?_
        refine V_iload d_Mod_bestBeside_14 rfl ?_
        refine N_callVI [.int c, .int v6] [] cv_Mod_243 sk_116 rfl d_Mod_bestBeside_16 rfl (Nat.le_of_ble_eq_true rfl) (by decide) (by decide) (c_Mod_besideX h hI c cZ cE v6 v6Z v6E w wZ wE wK g gZ gE gK (by (first | decide +kernel | omega)) (by (first | decide +kernel | omega))) (fun z11 h12 z11Z z11E p13 => ?_)
        obtain ⟨eh12, p13⟩ := p13
        subst eh12
        have hk9 : z11Z = mb (bsd wZ gZ cZ (v6Z).toNat) := z11E.symm.trans p13
        have bk := bw (v6Z).toNat (by (first | decide +kernel | omega))
        have mk := mb_s (bsd wZ gZ cZ (v6Z).toNat)
        refine V_istore 5 [some (.ref 116), some (.int c), some (.int s), some (.int v5), some (.int v6), some (.int z11)] d_Mod_bestBeside_19 (by decide) rfl rfl ?_
        refine V_iload d_Mod_bestBeside_21 rfl ?_
        refine V_bipush (-4) d_Mod_bestBeside_23 (by decide) ?_
        refine V_icmp_eq 65 z11E tc_m4 d_Mod_bestBeside_25 (by decide) (fun c14 => ?_) (fun c14 => ?_)
        ·
          refine V_iload_n 3 d_Mod_bestBeside_65 rfl rfl ?_
          have hb9 : v5Z = mb (bbN (fun i => (h.1 122 (16 * sZ.toNat + i)).toInt) wZ gZ cZ (v6Z + 1).toNat) := by rw [← bb_n (f := (fun i => (h.1 122 (16 * sZ.toNat + i)).toInt)) (n := v6Z) (K := bsd wZ gZ cZ (v6Z).toNat) (L := bbN (fun i => (h.1 122 (16 * sZ.toNat + i)).toInt) wZ gZ cZ (v6Z).toNat) (Y := 0) (Z := 0) (by (first | decide +kernel | omega)) rfl rfl (Or.inl (by (first | decide +kernel | omega)))]; omega
          refine V_istore_n 3 [some (.ref 116), some (.int c), some (.int s), some (.int v5), some (.int v6), some (.int z11)] d_Mod_bestBeside_66 rfl (by decide) rfl rfl ?_
          obtain ⟨z15, z15E, z15e⟩ : ∃ y : Int32, y.toInt = v6Z + 1 ∧ y = v6 + Int32.ofInt 1 := ⟨_, ti_add v6E (by decide) (by (first | decide +kernel | omega)), rfl⟩
          refine V_iinc 4 [some (.ref 116), some (.int c), some (.int s), some (.int v5), some (.int z15), some (.int z11)] d_Mod_bestBeside_67 rfl z15e.symm (by decide) rfl rfl ?_
          refine V_goto 6 d_Mod_bestBeside_70 (by decide) ?_
          refine V_drop 5 [some (.ref 116), some (.int c), some (.int s), some (.int v5), some (.int z15), none] rfl ?_
          exact ihL3 v5 v5Z z15 ((v6Z + 1)) v5E z15E (by (first | decide +kernel | omega)) hb9 (by (first | decide +kernel | omega))
        ·
          refine V_iload_n 3 d_Mod_bestBeside_28 rfl rfl ?_
          refine V_bipush (-4) d_Mod_bestBeside_29 (by decide) ?_
          refine V_icmp_eq 60 v5E tc_m4 d_Mod_bestBeside_31 (by decide) (fun c16 => ?_) (fun c16 => ?_)
          ·
            refine V_iload d_Mod_bestBeside_60 rfl ?_
            refine V_goto 66 d_Mod_bestBeside_62 (by decide) ?_
            have hb9 : z11Z = mb (bbN (fun i => (h.1 122 (16 * sZ.toNat + i)).toInt) wZ gZ cZ (v6Z + 1).toNat) := by rw [← bb_y (f := (fun i => (h.1 122 (16 * sZ.toNat + i)).toInt)) (n := v6Z) (K := bsd wZ gZ cZ (v6Z).toNat) (L := bbN (fun i => (h.1 122 (16 * sZ.toNat + i)).toInt) wZ gZ cZ (v6Z).toNat) (Y := 0) (Z := 0) (by (first | decide +kernel | omega)) rfl rfl (by (first | decide +kernel | omega)) (Or.inl (by (first | decide +kernel | omega)))]; omega
            refine V_istore_n 3 [some (.ref 116), some (.int c), some (.int s), some (.int z11), some (.int v6), some (.int z11)] d_Mod_bestBeside_66 rfl (by decide) rfl rfl ?_
            obtain ⟨z17, z17E, z17e⟩ : ∃ y : Int32, y.toInt = v6Z + 1 ∧ y = v6 + Int32.ofInt 1 := ⟨_, ti_add v6E (by decide) (by (first | decide +kernel | omega)), rfl⟩
            refine V_iinc 4 [some (.ref 116), some (.int c), some (.int s), some (.int z11), some (.int z17), some (.int z11)] d_Mod_bestBeside_67 rfl z17e.symm (by decide) rfl rfl ?_
            refine V_goto 6 d_Mod_bestBeside_70 (by decide) ?_
            refine V_drop 5 [some (.ref 116), some (.int c), some (.int s), some (.int z11), some (.int z17), none] rfl ?_
            exact ihL3 z11 z11Z z17 ((v6Z + 1)) z11E z17E (by (first | decide +kernel | omega)) hb9 (by (first | decide +kernel | omega))
          ·
            refine V_aload_n 0 d_Mod_bestBeside_34 rfl rfl ?_
            refine V_getR fa_Mod_26 sk_116 rfl d_Mod_bestBeside_35 ?_
            refine V_bipush 16 d_Mod_bestBeside_38 (by decide) ?_
            refine V_iload_n 2 d_Mod_bestBeside_40 rfl rfl ?_
            refine V_imul tc_16 sE (by (first | decide +kernel | omega)) d_Mod_bestBeside_41 (fun z18 z18e z18E => ?_)
            refine V_iload d_Mod_bestBeside_42 rfl ?_
            refine V_iadd z18E z11E (by (first | decide +kernel | omega)) d_Mod_bestBeside_44 (fun z19 z19e z19E => ?_)
            refine N_iald sk_122 z19E (by (first | decide +kernel | omega)) d_Mod_bestBeside_45 (fun z20 z20Z z20E z20e => ?_)
            refine V_aload_n 0 d_Mod_bestBeside_46 rfl rfl ?_
            refine V_getR fa_Mod_26 sk_116 rfl d_Mod_bestBeside_47 ?_
            refine V_bipush 16 d_Mod_bestBeside_50 (by decide) ?_
            refine V_iload_n 2 d_Mod_bestBeside_52 rfl rfl ?_
            refine V_imul tc_16 sE (by (first | decide +kernel | omega)) d_Mod_bestBeside_53 (fun z21 z21e z21E => ?_)
            refine V_iload_n 3 d_Mod_bestBeside_54 rfl rfl ?_
            refine V_iadd z21E v5E (by (first | decide +kernel | omega)) d_Mod_bestBeside_55 (fun z22 z22e z22E => ?_)
            refine N_iald sk_122 z22E (by (first | decide +kernel | omega)) d_Mod_bestBeside_56 (fun z23 z23Z z23E z23e => ?_)
            refine V_icmp_le 65 z20E z23E d_Mod_bestBeside_57 (by decide) (fun c24 => ?_) (fun c24 => ?_)
            ·
              refine V_iload_n 3 d_Mod_bestBeside_65 rfl rfl ?_
              have ey : z23Z = (h.1 122 (16 * sZ.toNat + (bbN (fun i => (h.1 122 (16 * sZ.toNat + i)).toInt) wZ gZ cZ (v6Z).toNat).toNat)).toInt := by rw [← z23E, z23e, show (16 * sZ + v5Z).toNat = 16 * sZ.toNat + (bbN (fun i => (h.1 122 (16 * sZ.toNat + i)).toInt) wZ gZ cZ (v6Z).toNat).toNat by (first | decide +kernel | omega)]
              have ez : z20Z = (h.1 122 (16 * sZ.toNat + (bsd wZ gZ cZ (v6Z).toNat).toNat)).toInt := by rw [← z20E, z20e, show (16 * sZ + z11Z).toNat = 16 * sZ.toNat + (bsd wZ gZ cZ (v6Z).toNat).toNat by (first | decide +kernel | omega)]
              have hb9 : v5Z = mb (bbN (fun i => (h.1 122 (16 * sZ.toNat + i)).toInt) wZ gZ cZ (v6Z + 1).toNat) := by rw [← bb_n (f := (fun i => (h.1 122 (16 * sZ.toNat + i)).toInt)) (n := v6Z) (K := bsd wZ gZ cZ (v6Z).toNat) (L := bbN (fun i => (h.1 122 (16 * sZ.toNat + i)).toInt) wZ gZ cZ (v6Z).toNat) (Y := z23Z) (Z := z20Z) (by (first | decide +kernel | omega)) rfl rfl (Or.inr ⟨by (first | decide +kernel | omega), ey, ez, by (first | decide +kernel | omega)⟩)]; omega
              refine V_istore_n 3 [some (.ref 116), some (.int c), some (.int s), some (.int v5), some (.int v6), some (.int z11)] d_Mod_bestBeside_66 rfl (by decide) rfl rfl ?_
              obtain ⟨z25, z25E, z25e⟩ : ∃ y : Int32, y.toInt = v6Z + 1 ∧ y = v6 + Int32.ofInt 1 := ⟨_, ti_add v6E (by decide) (by (first | decide +kernel | omega)), rfl⟩
              refine V_iinc 4 [some (.ref 116), some (.int c), some (.int s), some (.int v5), some (.int z25), some (.int z11)] d_Mod_bestBeside_67 rfl z25e.symm (by decide) rfl rfl ?_
              refine V_goto 6 d_Mod_bestBeside_70 (by decide) ?_
              refine V_drop 5 [some (.ref 116), some (.int c), some (.int s), some (.int v5), some (.int z25), none] rfl ?_
              exact ihL3 v5 v5Z z25 ((v6Z + 1)) v5E z25E (by (first | decide +kernel | omega)) hb9 (by (first | decide +kernel | omega))
            ·
              refine V_iload d_Mod_bestBeside_60 rfl ?_
              refine V_goto 66 d_Mod_bestBeside_62 (by decide) ?_
              have ey : z23Z = (h.1 122 (16 * sZ.toNat + (bbN (fun i => (h.1 122 (16 * sZ.toNat + i)).toInt) wZ gZ cZ (v6Z).toNat).toNat)).toInt := by rw [← z23E, z23e, show (16 * sZ + v5Z).toNat = 16 * sZ.toNat + (bbN (fun i => (h.1 122 (16 * sZ.toNat + i)).toInt) wZ gZ cZ (v6Z).toNat).toNat by (first | decide +kernel | omega)]
              have ez : z20Z = (h.1 122 (16 * sZ.toNat + (bsd wZ gZ cZ (v6Z).toNat).toNat)).toInt := by rw [← z20E, z20e, show (16 * sZ + z11Z).toNat = 16 * sZ.toNat + (bsd wZ gZ cZ (v6Z).toNat).toNat by (first | decide +kernel | omega)]
              have hb9 : z11Z = mb (bbN (fun i => (h.1 122 (16 * sZ.toNat + i)).toInt) wZ gZ cZ (v6Z + 1).toNat) := by rw [← bb_y (f := (fun i => (h.1 122 (16 * sZ.toNat + i)).toInt)) (n := v6Z) (K := bsd wZ gZ cZ (v6Z).toNat) (L := bbN (fun i => (h.1 122 (16 * sZ.toNat + i)).toInt) wZ gZ cZ (v6Z).toNat) (Y := z23Z) (Z := z20Z) (by (first | decide +kernel | omega)) rfl rfl (by (first | decide +kernel | omega)) (Or.inr ⟨ey, ez, by (first | decide +kernel | omega)⟩)]; omega
              refine V_istore_n 3 [some (.ref 116), some (.int c), some (.int s), some (.int z11), some (.int v6), some (.int z11)] d_Mod_bestBeside_66 rfl (by decide) rfl rfl ?_
              obtain ⟨z26, z26E, z26e⟩ : ∃ y : Int32, y.toInt = v6Z + 1 ∧ y = v6 + Int32.ofInt 1 := ⟨_, ti_add v6E (by decide) (by (first | decide +kernel | omega)), rfl⟩
              refine V_iinc 4 [some (.ref 116), some (.int c), some (.int s), some (.int z11), some (.int z26), some (.int z11)] d_Mod_bestBeside_67 rfl z26e.symm (by decide) rfl rfl ?_
              refine V_goto 6 d_Mod_bestBeside_70 (by decide) ?_
              refine V_drop 5 [some (.ref 116), some (.int c), some (.int s), some (.int z11), some (.int z26), none] rfl ?_
              exact ihL3 z11 z11Z z26 ((v6Z + 1)) z11E z26E (by (first | decide +kernel | omega)) hb9 (by (first | decide +kernel | omega))
  exact L3 (Int.toNat ((4 - 0 : Int) + 1)) (-4) ((-4)) 0 0 tc_m4 tc_0 (by (first | decide +kernel | omega)) rfl (by (first | decide +kernel | omega))
abbrev q_Walks_shownInX (h : Hp) (c : Int32) (cZ : Int) (o : Int32) (oZ : Int) (s : Int32) (sZ : Int) (n : Int32) (nZ : Int) (m : Int32) (mZ : Int) : Option Value → Hp → Prop := pInt (fun r h' => h = h' ∧ (r.toInt = svC h nZ mZ oZ cZ.toNat sZ))
set_option maxRecDepth 100000 in
theorem c_Walks_shownInX (h : Hp) (hI : Inv h) (c : Int32) (cZ : Int) (cE : c.toInt = cZ) (o : Int32) (oZ : Int) (oE : o.toInt = oZ) (s : Int32) (sZ : Int) (sE : s.toInt = sZ) (n : Int32) (nZ : Int) (nE : n.toInt = nZ) (nK : h.1 0 3 = n) (m : Int32) (mZ : Int) (mE : m.toInt = mZ) (mK : h.1 0 4 = m) (hy0 : 0 ≤ cZ ∧ cZ ≤ 15) (hy1 : 0 ≤ sZ) (hy2 : ∀ i : Nat, i < 16 → 0 ≤ (h.1 3 i).toInt ∧ (h.1 3 i).toInt ≤ 1) : Ct y_Walks_shownIn b_Walks_shownIn 5 (some .int) 2 50 [.ref 0, .int c, .int o, .int s] h (q_Walks_shownInX h c cZ o oZ s sZ n nZ m mZ) := by
  refine ct_ow R_Walks [some (.ref 0), some (.int c), some (.int o), some (.int s), none] rfl (by decide) rfl (Nat.le_of_ble_eq_true rfl) ?_
  have f0 : fr [] h h := fr_rf
  obtain ⟨uv, uvZ, uvE, uvK⟩ : ∃ (y : Int32) (Y : Int), y.toInt = Y ∧ h.1 2 (cZ).toNat = y := ⟨_, _, rfl, rfl⟩
  refine V_aload_n 0 d_Walks_shownIn_0 rfl rfl ?_
  refine V_iload_n 1 d_Walks_shownIn_1 rfl rfl ?_
  refine V_iload_n 2 d_Walks_shownIn_2 rfl rfl ?_
  refine V_iload_n 3 d_Walks_shownIn_3 rfl rfl ?_
  refine N_callVI [.int c, .int o, .int s] [] cv_Walks_40 sk_0 rfl d_Walks_shownIn_4 rfl (Nat.le_of_ble_eq_true rfl) (by decide) (by decide) (c_County_twitchesX_0 h hI c cZ cE o oZ oE s sZ sE n nZ nE nK m mZ mE mK (by (first | decide +kernel | omega)) (by (first | decide +kernel | omega)) hy2) (fun z1 h2 z1Z z1E p3 => ?_)
  obtain ⟨eh2, p3⟩ := p3
  subst eh2
  have := twR_01 p3
  refine V_if_eq 14 z1E d_Walks_shownIn_7 (by decide) (fun c4 => ?_) (fun c4 => ?_)
  ·
    refine V_iconst 0 d_Walks_shownIn_14 (by decide) ?_
    refine V_istore 4 [some (.ref 0), some (.int c), some (.int o), some (.int s), some (.int 0)] d_Walks_shownIn_15 (by decide) rfl rfl ?_
    refine V_aload_n 0 d_Walks_shownIn_17 rfl rfl ?_
    refine V_getR fa_Walks_20 sk_0 rfl d_Walks_shownIn_18 ?_
    refine V_getR fa_Walks_44 sk_1 rfl d_Walks_shownIn_21 ?_
    refine V_iload_n 1 d_Walks_shownIn_24 rfl rfl ?_
    refine N_ialdK sk_2 cE (by (first | decide +kernel | omega)) d_Walks_shownIn_25 uvK ?_
    refine V_if_le 36 uvE d_Walks_shownIn_26 (by decide) (fun c6 => ?_) (fun c6 => ?_)
    ·
      refine V_iload d_Walks_shownIn_36 rfl ?_
      exact V_iret rfl d_Walks_shownIn_38 ⟨0, rfl, ⟨rfl, (by unfold svC; rw [uvK, uvE]; exact svv_of p3 z1E (by (try rw [show Int32.toInt 0 = 0 from rfl]); omega))⟩⟩
    ·
      refine V_iload d_Walks_shownIn_29 rfl ?_
      refine V_iconst 1 d_Walks_shownIn_31 (by decide) ?_
      refine V_isubw d_Walks_shownIn_32 (fun z7 z7e => ?_)
      obtain rfl : z7 = (-1) := z7e.trans (by decide)
      refine V_goto 38 d_Walks_shownIn_33 (by decide) ?_
      exact V_iret rfl d_Walks_shownIn_38 ⟨(-1), rfl, ⟨rfl, (by unfold svC; rw [uvK, uvE]; exact svv_of p3 z1E (by (try rw [show Int32.toInt (-1) = (-1) from rfl]); omega))⟩⟩
  ·
    refine V_iconst 2 d_Walks_shownIn_10 (by decide) ?_
    refine V_goto 15 d_Walks_shownIn_11 (by decide) ?_
    refine V_istore 4 [some (.ref 0), some (.int c), some (.int o), some (.int s), some (.int 2)] d_Walks_shownIn_15 (by decide) rfl rfl ?_
    refine V_aload_n 0 d_Walks_shownIn_17 rfl rfl ?_
    refine V_getR fa_Walks_20 sk_0 rfl d_Walks_shownIn_18 ?_
    refine V_getR fa_Walks_44 sk_1 rfl d_Walks_shownIn_21 ?_
    refine V_iload_n 1 d_Walks_shownIn_24 rfl rfl ?_
    refine N_ialdK sk_2 cE (by (first | decide +kernel | omega)) d_Walks_shownIn_25 uvK ?_
    refine V_if_le 36 uvE d_Walks_shownIn_26 (by decide) (fun c9 => ?_) (fun c9 => ?_)
    ·
      refine V_iload d_Walks_shownIn_36 rfl ?_
      exact V_iret rfl d_Walks_shownIn_38 ⟨2, rfl, ⟨rfl, (by unfold svC; rw [uvK, uvE]; exact svv_of p3 z1E (by (try rw [show Int32.toInt 2 = 2 from rfl]); omega))⟩⟩
    ·
      refine V_iload d_Walks_shownIn_29 rfl ?_
      refine V_iconst 1 d_Walks_shownIn_31 (by decide) ?_
      refine V_isubw d_Walks_shownIn_32 (fun z10 z10e => ?_)
      obtain rfl : z10 = 1 := z10e.trans (by decide)
      refine V_goto 38 d_Walks_shownIn_33 (by decide) ?_
      exact V_iret rfl d_Walks_shownIn_38 ⟨1, rfl, ⟨rfl, (by unfold svC; rw [uvK, uvE]; exact svv_of p3 z1E (by (try rw [show Int32.toInt 1 = 1 from rfl]); omega))⟩⟩
abbrev q_Mod_showsInX (h : Hp) (c : Int32) (cZ : Int) (o : Int32) (oZ : Int) (s : Int32) (sZ : Int) (n : Int32) (nZ : Int) (m : Int32) (mZ : Int) : Option Value → Hp → Prop := pInt (fun r h' => h = h' ∧ (r.toInt = svM h nZ mZ oZ cZ.toNat sZ))
set_option maxRecDepth 100000 in
theorem c_Mod_showsInX (h : Hp) (hI : Inv h) (c : Int32) (cZ : Int) (cE : c.toInt = cZ) (o : Int32) (oZ : Int) (oE : o.toInt = oZ) (s : Int32) (sZ : Int) (sE : s.toInt = sZ) (n : Int32) (nZ : Int) (nE : n.toInt = nZ) (nK : h.1 117 84 = n) (m : Int32) (mZ : Int) (mE : m.toInt = mZ) (mK : h.1 117 85 = m) (hy0 : 0 ≤ cZ ∧ cZ ≤ 15) (hy1 : 0 ≤ sZ) : Ct y_Mod_showsIn b_Mod_showsIn 4 (some .int) 1 27 [.ref 116, .int c, .int o, .int s] h (q_Mod_showsInX h c cZ o oZ s sZ n nZ m mZ) := by
  refine ct_ow R_Mod [some (.ref 116), some (.int c), some (.int o), some (.int s)] rfl (by decide) rfl (Nat.le_of_ble_eq_true rfl) ?_
  have f0 : fr [] h h := fr_rf
  obtain ⟨uv, uvZ, uvE, uvK⟩ : ∃ (y : Int32) (Y : Int), y.toInt = Y ∧ h.1 117 ((0 + cZ)).toNat = y := ⟨_, _, rfl, rfl⟩
  refine V_iconst 2 d_Mod_showsIn_0 (by decide) ?_
  refine V_aload_n 0 d_Mod_showsIn_1 rfl rfl ?_
  refine V_aload_n 0 d_Mod_showsIn_2 rfl rfl ?_
  refine V_getR fa_Mod_7 sk_116 rfl d_Mod_showsIn_3 ?_
  refine V_bipush 84 d_Mod_showsIn_6 (by decide) ?_
  refine N_ialdK sk_117 tc_84 (by (first | decide +kernel | omega)) d_Mod_showsIn_8 nK ?_
  refine V_aload_n 0 d_Mod_showsIn_9 rfl rfl ?_
  refine V_getR fa_Mod_7 sk_116 rfl d_Mod_showsIn_10 ?_
  refine V_bipush 85 d_Mod_showsIn_13 (by decide) ?_
  refine N_ialdK sk_117 tc_85 (by (first | decide +kernel | omega)) d_Mod_showsIn_15 mK ?_
  refine V_iload_n 1 d_Mod_showsIn_16 rfl rfl ?_
  refine V_iload_n 2 d_Mod_showsIn_17 rfl rfl ?_
  refine V_iload_n 3 d_Mod_showsIn_18 rfl rfl ?_
  refine N_callVI [.int n, .int m, .int c, .int o, .int s] [.int 2] cv_Mod_229 sk_116 rfl d_Mod_showsIn_19 rfl (Nat.le_of_ble_eq_true rfl) (by decide) (by decide) (c_Mod_doesTwitchX h hI n nZ nE m mZ mE c cZ cE o oZ oE s sZ sE (by (first | decide +kernel | omega)) (by (first | decide +kernel | omega))) (fun z3 h4 z3Z z3E p5 => ?_)
  obtain ⟨eh4, p5⟩ := p5
  subst eh4
  have := twR_01 p5
  refine N_callSI [.int z3] [.int 2] cs_Mod_196 d_Mod_showsIn_22 rfl (Nat.le_of_ble_eq_true rfl) (by decide) (by decide) (c_Mod_flag h z3 z3Z z3E) (fun z6 h7 z6Z z6E p8 => ?_)
  obtain ⟨eh7, p8⟩ := p8
  subst eh7
  refine V_imul tc_2 z6E (by (first | decide +kernel | omega)) d_Mod_showsIn_25 (fun z9 z9e z9E => ?_)
  refine V_aload_n 0 d_Mod_showsIn_26 rfl rfl ?_
  refine V_getR fa_Mod_7 sk_116 rfl d_Mod_showsIn_27 ?_
  refine V_iconst 0 d_Mod_showsIn_30 (by decide) ?_
  refine V_iload_n 1 d_Mod_showsIn_31 rfl rfl ?_
  refine V_iadd tc_0 cE (by (first | decide +kernel | omega)) d_Mod_showsIn_32 (fun z10 z10e z10E => ?_)
  refine N_ialdK sk_117 z10E (by (first | decide +kernel | omega)) d_Mod_showsIn_33 uvK ?_
  refine V_if_le 41 uvE d_Mod_showsIn_34 (by decide) (fun c12 => ?_) (fun c12 => ?_)
  ·
    refine V_iconst 0 d_Mod_showsIn_41 (by decide) ?_
    refine N_callSI [.int 0] [.int z9] cs_Mod_196 d_Mod_showsIn_42 rfl (Nat.le_of_ble_eq_true rfl) (by decide) (by decide) (c_Mod_flag h 0 0 tc_0) (fun z13 h14 z13Z z13E p15 => ?_)
    obtain ⟨eh14, p15⟩ := p15
    subst eh14
    refine V_isub z9E z13E (by (first | decide +kernel | omega)) d_Mod_showsIn_45 (fun z16 z16e z16E => ?_)
    exact V_iret rfl d_Mod_showsIn_46 ⟨z16, rfl, ⟨rfl, (by unfold svM; rw [show cZ.toNat = (0 + cZ).toNat by (first | decide +kernel | omega), uvK, uvE, show (0 + cZ).toNat = cZ.toNat by (first | decide +kernel | omega)]; exact svv_of (twR_fl p5 z3E p8) z6E (by rw [z16E]; omega))⟩⟩
  ·
    refine V_iconst 1 d_Mod_showsIn_37 (by decide) ?_
    refine V_goto 42 d_Mod_showsIn_38 (by decide) ?_
    refine N_callSI [.int 1] [.int z9] cs_Mod_196 d_Mod_showsIn_42 rfl (Nat.le_of_ble_eq_true rfl) (by decide) (by decide) (c_Mod_flag h 1 1 tc_1) (fun z17 h18 z17Z z17E p19 => ?_)
    obtain ⟨eh18, p19⟩ := p19
    subst eh18
    refine V_isub z9E z17E (by (first | decide +kernel | omega)) d_Mod_showsIn_45 (fun z20 z20e z20E => ?_)
    exact V_iret rfl d_Mod_showsIn_46 ⟨z20, rfl, ⟨rfl, (by unfold svM; rw [show cZ.toNat = (0 + cZ).toNat by (first | decide +kernel | omega), uvK, uvE, show (0 + cZ).toNat = cZ.toNat by (first | decide +kernel | omega)]; exact svv_of (twR_fl p5 z3E p8) z6E (by rw [z20E]; omega))⟩⟩
def S_Walks_findX : List (Nat × Option Nat) := [(95, none), (96, none), (97, none), (98, none), (99, none), (100, none), (101, none)]
abbrev q_Walks_findX (h : Hp) (c : Int32) (cZ : Int) (o : Int32) (oZ : Int) (n : Int32) (nZ : Int) (w : Int32) (wZ : Int) (g : Int32) (gZ : Int) (p : Int32) (pZ : Int) (m : Int32) (mZ : Int) : Option Value → Hp → Prop := pVd (fun h' => Inv h' ∧ fr S_Walks_findX h h' ∧ ((∀ i : Int, 0 ≤ i → i < nZ → VR (vv9 (svC h pZ mZ oZ) wZ gZ nZ) (wZ * gZ) h' (95 + i.toNat) 0 (nZ - 1 - i).toNat 16) ∧ PT (pth (vv9 (svC h pZ mZ oZ) wZ gZ nZ) wZ gZ nZ cZ) h' nZ))
set_option maxRecDepth 100000 in
theorem c_Walks_findX (h : Hp) (hI : Inv h) (c : Int32) (cZ : Int) (cE : c.toInt = cZ) (o : Int32) (oZ : Int) (oE : o.toInt = oZ) (n : Int32) (nZ : Int) (nE : n.toInt = nZ) (w : Int32) (wZ : Int) (wE : w.toInt = wZ) (wK : h.1 1 0 = w) (g : Int32) (gZ : Int) (gE : g.toInt = gZ) (gK : h.1 1 1 = g) (p : Int32) (pZ : Int) (pE : p.toInt = pZ) (pK : h.1 0 3 = p) (m : Int32) (mZ : Int) (mE : m.toInt = mZ) (mK : h.1 0 4 = m) (hy0 : 0 ≤ cZ ∧ cZ < wZ * gZ) (hy1 : 1 ≤ nZ ∧ nZ ≤ 6) (hy2 : ∀ i : Nat, i < 16 → 0 ≤ (h.1 3 i).toInt ∧ (h.1 3 i).toInt ≤ 1) : Ct y_Walks_find b_Walks_find 8 none 4 90 [.ref 93, .ref 0, .int c, .int o, .int n] h (q_Walks_findX h c cZ o oZ n nZ w wZ g gZ p pZ m mZ) := by
  refine ct_ow R_Walks [some (.ref 93), some (.ref 0), some (.int c), some (.int o), some (.int n), none, none, none] rfl (by decide) rfl (Nat.le_of_ble_eq_true rfl) ?_
  have f0 : fr S_Walks_findX h h := fr_rf
  have g1 : 2 ≤ wZ ∧ wZ ≤ 4 := inv_at hI wE wK.symm rfl
  have g2 : 2 ≤ gZ ∧ gZ ≤ 4 := inv_at hI gE gK.symm rfl
  have m24 := mul24 (A := wZ) (B := gZ) (by (first | decide +kernel | omega)) (by (first | decide +kernel | omega))
  refine V_iload d_Walks_find_0 rfl ?_
  refine V_iconst 1 d_Walks_find_2 (by decide) ?_
  refine V_isub nE tc_1 (by (first | decide +kernel | omega)) d_Walks_find_3 (fun z3 z3e z3E => ?_)
  refine V_istore 5 [some (.ref 93), some (.ref 0), some (.int c), some (.int o), some (.int n), some (.int z3), none, none] d_Walks_find_4 (by decide) rfl rfl ?_
  have L4 : ∀ (nn : Nat) (v6 : Int32) (v6Z : Int) (h7 : Hp), v6.toInt = v6Z → Inv h7 → fr S_Walks_findX h h7 → h7.1 1 0 = w → h7.1 1 1 = g → h7.1 0 3 = p → h7.1 0 4 = m → -1 ≤ v6Z ∧ v6Z ≤ nZ - 1 → (∀ i : Int, v6Z < i → i < nZ → VR (vv9 (svC h pZ mZ oZ) wZ gZ nZ) (wZ * gZ) h7 (95 + i.toNat) 0 (nZ - 1 - i).toNat 16) → v6Z + 1 < (nn : Int) → V R_Walks b_Walks_find 8 none 4 90 (q_Walks_findX h c cZ o oZ n nZ w wZ g gZ p pZ m mZ) h7 6 [some (.ref 93), some (.ref 0), some (.int c), some (.int o), some (.int n), some (.int v6), none, none] [] := by
    intro nn
    induction nn with
    | zero => intro v6 v6Z h7 v6E Ih7 Fh7 K8 K9 K10 K11 q12 q13 hm14; exact absurd hm14 (by (first | decide +kernel | omega))
    | succ nn ihL4 =>
      intro v6 v6Z h7 v6E Ih7 Fh7 K8 K9 K10 K11 q12 q13 hm14
      refine V_iload d_Walks_find_6 rfl ?_
      refine V_if_lt 110 v6E d_Walks_find_8 (by decide) (fun c15 => ?_) (fun c15 => ?_)
      ·
        have hr8 : (∀ i : Int, v6Z < i → i < nZ → VR (vv9 (svC h pZ mZ oZ) wZ gZ nZ) (wZ * gZ) h7 (95 + i.toNat) 0 (nZ - 1 - i).toNat 16) := by assumption
        refine V_aload_n 0 d_Walks_find_110 rfl rfl ?_
        refine V_getR fa_Walks_16 sk_93 rfl d_Walks_find_111 ?_
        refine V_iconst 0 d_Walks_find_114 (by decide) ?_
        refine V_iload_n 2 d_Walks_find_115 rfl rfl ?_
        refine N_iast sk_101 tc_0 (by (first | decide +kernel | omega)) d_Walks_find_116 (fun h16 eh16 => ?_)
        have hI17 : Inv h16 := inv_full Ih7 eh16 rfl
        have f18 : fr S_Walks_findX h h16 := fr_put Fh7 eh16 rfl
        refine V_iconst 1 d_Walks_find_117 (by decide) ?_
        refine V_istore 5 [some (.ref 93), some (.ref 0), some (.int c), some (.int o), some (.int n), some (.int 1), none, none] d_Walks_find_118 (by decide) rfl rfl ?_
        have L19 : ∀ (nn : Nat) (v21 : Int32) (v21Z : Int) (h22 : Hp), v21.toInt = v21Z → Inv h22 → fr S_Walks_findX h h22 → h22.1 1 0 = w → h22.1 1 1 = g → 1 ≤ v21Z ∧ v21Z ≤ nZ → (∀ i : Int, 0 ≤ i → i < nZ → VR (vv9 (svC h pZ mZ oZ) wZ gZ nZ) (wZ * gZ) h22 (95 + i.toNat) 0 (nZ - 1 - i).toNat 16) → PT (pth (vv9 (svC h pZ mZ oZ) wZ gZ nZ) wZ gZ nZ cZ) h22 v21Z → nZ - v21Z < (nn : Int) → V R_Walks b_Walks_find 8 none 4 90 (q_Walks_findX h c cZ o oZ n nZ w wZ g gZ p pZ m mZ) h22 120 [some (.ref 93), some (.ref 0), some (.int c), some (.int o), some (.int n), some (.int v21), none, none] [] := by
          intro nn
          induction nn with
          | zero => intro v21 v21Z h22 v21E Ih22 Fh22 K23 K24 q25 q26 q27 hm28; exact absurd hm28 (by (first | decide +kernel | omega))
          | succ nn ihL19 =>
            intro v21 v21Z h22 v21E Ih22 Fh22 K23 K24 q25 q26 q27 hm28
            refine V_iload d_Walks_find_120 rfl ?_
            refine V_iload d_Walks_find_122 rfl ?_
            refine V_icmp_ge 159 v21E nE d_Walks_find_124 (by decide) (fun c29 => ?_) (fun c29 => ?_)
            ·
              exact V_vret rfl d_Walks_find_159 ⟨rfl, ⟨Ih22, Fh22, ⟨by assumption, fun i hi => (show PT (pth (vv9 (svC h pZ mZ oZ) wZ gZ nZ) wZ gZ nZ cZ) h22 v21Z from by assumption) i (by (first | decide +kernel | omega))⟩⟩⟩
            ·
              have hr7 : (∀ i : Int, 0 ≤ i → i < nZ → VR (vv9 (svC h pZ mZ oZ) wZ gZ nZ) (wZ * gZ) h22 (95 + i.toNat) 0 (nZ - 1 - i).toNat 16) := by assumption
              have hp7 : PT (pth (vv9 (svC h pZ mZ oZ) wZ gZ nZ) wZ gZ nZ cZ) h22 v21Z := by assumption
              have hpb := pth_b (v := (vv9 (svC h pZ mZ oZ) wZ gZ nZ)) (W := wZ) (G := gZ) (n := nZ) (c := cZ) (by (first | decide +kernel | omega)) (by (first | decide +kernel | omega)) (by (first | decide +kernel | omega)) (v21Z - 1).toNat
              refine V_aload_n 0 d_Walks_find_127 rfl rfl ?_
              refine V_getR fa_Walks_16 sk_93 rfl d_Walks_find_128 ?_
              refine V_iload d_Walks_find_131 rfl ?_
              refine V_aload_n 0 d_Walks_find_133 rfl rfl ?_
              refine V_aload_n 1 d_Walks_find_134 rfl rfl ?_
              refine V_getR fa_Walks_20 sk_0 rfl d_Walks_find_135 ?_
              refine V_aload_n 0 d_Walks_find_138 rfl rfl ?_
              refine V_getR fa_Walks_16 sk_93 rfl d_Walks_find_139 ?_
              refine V_iload d_Walks_find_142 rfl ?_
              refine V_iconst 1 d_Walks_find_144 (by decide) ?_
              refine V_isub v21E tc_1 (by (first | decide +kernel | omega)) d_Walks_find_145 (fun z30 z30e z30E => ?_)
              refine N_iald sk_101 z30E (by (first | decide +kernel | omega)) d_Walks_find_146 (fun z31 z31Z z31E z31e => ?_)
              have hp6 : z31Z = (pth (vv9 (svC h pZ mZ oZ) wZ gZ nZ) wZ gZ nZ cZ) (v21Z - 1).toNat := by rw [← z31E, z31e]; exact hp7 _ (by (first | decide +kernel | omega))
              rw [← hp6] at hpb
              refine V_iload d_Walks_find_147 rfl ?_
              refine N_callVI [.ref 1, .int z31, .int v21] [.int v21, .ref 101] cv_Walks_32 sk_93 rfl d_Walks_find_149 rfl (Nat.le_of_ble_eq_true rfl) (by decide) (by decide) (c_Walks_bestBesideX h22 Ih22 z31 z31Z z31E v21 v21Z v21E w wZ wE K23 g gZ gE K24 (by (first | decide +kernel | omega)) (by (first | decide +kernel | omega))) (fun z32 h33 z32Z z32E p34 => ?_)
              obtain ⟨eh33, p34⟩ := p34
              subst eh33
              have hx7 : z32Z = (pth (vv9 (svC h pZ mZ oZ) wZ gZ nZ) wZ gZ nZ cZ) (v21Z).toNat := by rw [pth_s (by (first | decide +kernel | omega)), ← hp6, ← z32E, p34]; exact bbN_cg (by (first | decide +kernel | omega)) (by (first | decide +kernel | omega)) (by (first | decide +kernel | omega)) (fun i hi => by have q9 := hr7 v21Z (by (first | decide +kernel | omega)) (by (first | decide +kernel | omega)) i (by (first | decide +kernel | omega)) hi; rw [Nat.zero_add] at q9; exact q9) 4 (by (first | decide +kernel | omega))
              refine N_iast sk_101 v21E (by (first | decide +kernel | omega)) d_Walks_find_152 (fun h35 eh35 => ?_)
              have hI36 : Inv h35 := inv_full Ih22 eh35 rfl
              have f37 : fr S_Walks_findX h h35 := fr_put Fh22 eh35 rfl
              obtain ⟨z38, z38E, z38e⟩ : ∃ y : Int32, y.toInt = v21Z + 1 ∧ y = v21 + Int32.ofInt 1 := ⟨_, ti_add v21E (by decide) (by (first | decide +kernel | omega)), rfl⟩
              refine V_iinc 5 [some (.ref 93), some (.ref 0), some (.int c), some (.int o), some (.int n), some (.int z38), none, none] d_Walks_find_153 rfl z38e.symm (by decide) rfl rfl ?_
              refine V_goto 120 d_Walks_find_156 (by decide) ?_
              exact ihL19 z38 ((v21Z + 1)) h35 z38E hI36 f37 (kn_ne eh35 K23 (by decide)) (kn_ne eh35 K24 (by decide)) (by (first | decide +kernel | omega)) (fun i a b => VR_ne (hr7 i a b) eh35 (Or.inl (by (first | decide +kernel | omega))) (by (first | decide +kernel | omega))) (PT_s hp7 (by (first | decide +kernel | omega)) eh35 z32E hx7) (by (first | decide +kernel | omega))
        exact L19 (Int.toNat ((nZ - 1 : Int) + 1)) 1 1 h16 tc_1 hI17 f18 (kn_ne eh16 K8 (by decide)) (kn_ne eh16 K9 (by decide)) (by (first | decide +kernel | omega)) (fun i a b => VR_ne (hr8 i (by (first | decide +kernel | omega)) b) eh16 (Or.inl (by (first | decide +kernel | omega))) (by (first | decide +kernel | omega))) (fun i hi => by rw [eh16, pI_at, if_pos ⟨rfl, by (first | decide +kernel | omega)⟩, show i = 0 by (first | decide +kernel | omega)]; exact cE) (by (first | decide +kernel | omega))
      ·
        refine V_iconst 0 d_Walks_find_11 (by decide) ?_
        refine V_istore 6 [some (.ref 93), some (.ref 0), some (.int c), some (.int o), some (.int n), some (.int v6), some (.int 0), none] d_Walks_find_12 (by decide) rfl rfl ?_
        have L39 : ∀ (nn : Nat) (v41 : Int32) (v41Z : Int) (h42 : Hp), v41.toInt = v41Z → Inv h42 → fr S_Walks_findX h h42 → h42.1 1 0 = w → h42.1 1 1 = g → h42.1 0 3 = p → h42.1 0 4 = m → 0 ≤ v41Z ∧ v41Z ≤ wZ * gZ → (∀ i : Int, v6Z < i → i < nZ → VR (vv9 (svC h pZ mZ oZ) wZ gZ nZ) (wZ * gZ) h42 (95 + i.toNat) 0 (nZ - 1 - i).toNat 16) → VR (vv9 (svC h pZ mZ oZ) wZ gZ nZ) (wZ * gZ) h42 (95 + (v6Z).toNat) 0 (nZ - 1 - v6Z).toNat v41Z → 16 - v41Z < (nn : Int) → V R_Walks b_Walks_find 8 none 4 90 (q_Walks_findX h c cZ o oZ n nZ w wZ g gZ p pZ m mZ) h42 14 [some (.ref 93), some (.ref 0), some (.int c), some (.int o), some (.int n), some (.int v6), some (.int v41), none] [] := by
          intro nn
          induction nn with
          | zero => intro v41 v41Z h42 v41E Ih42 Fh42 K43 K44 K45 K46 q47 q48 q49 hm50; exact absurd hm50 (by (first | decide +kernel | omega))
          | succ nn ihL39 =>
            intro v41 v41Z h42 v41E Ih42 Fh42 K43 K44 K45 K46 q47 q48 q49 hm50
            refine V_iload d_Walks_find_14 rfl ?_
            refine V_aload_n 1 d_Walks_find_16 rfl rfl ?_
            refine V_getR fa_Walks_20 sk_0 rfl d_Walks_find_17 ?_
            refine N_callVI [] [.int v41] cv_Walks_26 sk_1 rfl d_Walks_find_20 rfl (Nat.le_of_ble_eq_true rfl) (by decide) (by decide) (c_Land_cells_0 h42 Ih42 w wZ wE K43 g gZ gE K44) (fun z51 h52 z51Z z51E p53 => ?_)
            obtain ⟨eh52, p53⟩ := p53
            subst eh52
            refine V_icmp_ge 104 v41E z51E d_Walks_find_23 (by decide) (fun c54 => ?_) (fun c54 => ?_)
            ·
              obtain ⟨z55, z55E, z55e⟩ : ∃ y : Int32, y.toInt = v6Z + (-1) ∧ y = v6 + Int32.ofInt (-1) := ⟨_, ti_add v6E (by decide) (by (first | decide +kernel | omega)), rfl⟩
              refine V_iinc 5 [some (.ref 93), some (.ref 0), some (.int c), some (.int o), some (.int n), some (.int z55), some (.int v41), none] d_Walks_find_104 rfl z55e.symm (by decide) rfl rfl ?_
              refine V_goto 6 d_Walks_find_107 (by decide) ?_
              refine V_drop 6 [some (.ref 93), some (.ref 0), some (.int c), some (.int o), some (.int n), some (.int z55), none, none] rfl ?_
              exact ihL4 z55 ((v6Z + (-1))) h42 z55E Ih42 Fh42 K43 K44 K45 K46 (by (first | decide +kernel | omega)) (fun i a b => by by_cases q : i = v6Z; exact (by rw [q]; exact fun c hc hw => (show VR (vv9 (svC h pZ mZ oZ) wZ gZ nZ) (wZ * gZ) h42 (95 + (v6Z).toNat) 0 (nZ - 1 - v6Z).toNat v41Z from by assumption) c (by (first | decide +kernel | omega)) hw); exact (show (∀ i : Int, v6Z < i → i < nZ → VR (vv9 (svC h pZ mZ oZ) wZ gZ nZ) (wZ * gZ) h42 (95 + i.toNat) 0 (nZ - 1 - i).toNat 16) from by assumption) i (by (first | decide +kernel | omega)) b) (by (first | decide +kernel | omega))
            ·
              have hr9 : (∀ i : Int, v6Z < i → i < nZ → VR (vv9 (svC h pZ mZ oZ) wZ gZ nZ) (wZ * gZ) h42 (95 + i.toNat) 0 (nZ - 1 - i).toNat 16) := by assumption
              have hb0 := vv9_b (sv := svC h pZ mZ oZ) (W := wZ) (G := gZ) (n := nZ) (fun c s => svv_b _ _)
              refine V_iload d_Walks_find_26 rfl ?_
              refine V_iload d_Walks_find_28 rfl ?_
              refine V_iconst 1 d_Walks_find_30 (by decide) ?_
              refine V_isub nE tc_1 (by (first | decide +kernel | omega)) d_Walks_find_31 (fun z56 z56e z56E => ?_)
              refine V_icmp_ge 52 v6E z56E d_Walks_find_32 (by decide) (fun c57 => ?_) (fun c57 => ?_)
              ·
                refine V_iconst (-1) d_Walks_find_52 (by decide) ?_
                refine V_istore 7 [some (.ref 93), some (.ref 0), some (.int c), some (.int o), some (.int n), some (.int v6), some (.int v41), some (.int (-1))] d_Walks_find_53 (by decide) rfl rfl ?_
                refine V_aload_n 0 d_Walks_find_55 rfl rfl ?_
                refine V_getR fa_Walks_11 sk_93 rfl d_Walks_find_56 ?_
                refine V_iload d_Walks_find_59 rfl ?_
                refine V_aald (r := (95 + (v6Z).toNat)) sk_94 (by decide) v6E (by (first | decide +kernel | omega)) (gridAt (by (first | decide +kernel | omega))) d_Walks_find_61 ?_
                refine V_iload d_Walks_find_62 rfl ?_
                refine V_aload_n 1 d_Walks_find_64 rfl rfl ?_
                refine V_iload d_Walks_find_65 rfl ?_
                refine V_iload_n 3 d_Walks_find_67 rfl rfl ?_
                refine V_iload d_Walks_find_68 rfl ?_
                refine V_iconst 1 d_Walks_find_70 (by decide) ?_
                refine V_iadd v6E tc_1 (by (first | decide +kernel | omega)) d_Walks_find_71 (fun z58 z58e z58E => ?_)
                refine N_callSI [.ref 0, .int v41, .int o, .int z58] [.int v41, .ref (95 + (v6Z).toNat)] cs_Walks_36 d_Walks_find_72 rfl (Nat.le_of_ble_eq_true rfl) (by decide) (by decide) (c_Walks_shownInX h42 Ih42 v41 v41Z v41E o oZ oE z58 ((v6Z + 1)) z58E p pZ pE K45 m mZ mE K46 (by (first | decide +kernel | omega)) (by (first | decide +kernel | omega)) (fun i hi => by rw [Fh42.1 3 i rfl]; exact hy2 i hi)) (fun z59 h60 z59Z z59E p61 => ?_)
                obtain ⟨eh60, p61⟩ := p61
                subst eh60
                have hsv : z59Z = svC h pZ mZ oZ (v41Z).toNat (v6Z + 1) := z59E.symm.trans (p61.trans (svC_fr Fh42 rfl))
                have hsb := svv_b (twC h pZ mZ (v41Z).toNat oZ (v6Z + 1)) (h.1 2 (v41Z).toNat).toInt
                have hsb2 : -1 ≤ z59Z ∧ z59Z ≤ 2 := by rw [hsv]; exact hsb
                refine V_iload d_Walks_find_75 rfl ?_
                refine V_if_ge 84 tc_m1 d_Walks_find_77 (by decide) (fun c62 => ?_) (fun c62 => ?_)
                ·
                  exact absurd c62 (by decide)
                ·
                  refine V_iconst 0 d_Walks_find_80 (by decide) ?_
                  refine V_goto 96 d_Walks_find_81 (by decide) ?_
                  refine V_iadd z59E tc_0 (by (first | decide +kernel | omega)) d_Walks_find_96 (fun z63 z63e z63E => ?_)
                  have hv9 : (z59Z + 0) = (vv9 (svC h pZ mZ oZ) wZ gZ nZ) (nZ - 1 - v6Z).toNat (v41Z).toNat := by rw [vv9_n (by (first | decide +kernel | omega)), ← hsv]; omega
                  refine N_iast (gridSk (by (first | decide +kernel | omega))) v41E (by (first | decide +kernel | omega)) d_Walks_find_97 (fun h64 eh64 => ?_)
                  have hI65 : Inv h64 := inv_full Ih42 eh64 (gridRg (by (first | decide +kernel | omega)) _)
                  have f66 : fr S_Walks_findX h h64 := fr_put Fh42 eh64 (gridIn (by (first | decide +kernel | omega)) rfl _)
                  obtain ⟨z67, z67E, z67e⟩ : ∃ y : Int32, y.toInt = v41Z + 1 ∧ y = v41 + Int32.ofInt 1 := ⟨_, ti_add v41E (by decide) (by (first | decide +kernel | omega)), rfl⟩
                  refine V_iinc 6 [some (.ref 93), some (.ref 0), some (.int c), some (.int o), some (.int n), some (.int v6), some (.int z67), some (.int (-1))] d_Walks_find_98 rfl z67e.symm (by decide) rfl rfl ?_
                  refine V_goto 14 d_Walks_find_101 (by decide) ?_
                  refine V_drop 7 [some (.ref 93), some (.ref 0), some (.int c), some (.int o), some (.int n), some (.int v6), some (.int z67), none] rfl ?_
                  exact ihL39 z67 ((v41Z + 1)) h64 z67E hI65 f66 (kn_ne eh64 K43 (by (first | decide +kernel | omega))) (kn_ne eh64 K44 (by (first | decide +kernel | omega))) (kn_ne eh64 K45 (by (first | decide +kernel | omega))) (kn_ne eh64 K46 (by (first | decide +kernel | omega))) (by (first | decide +kernel | omega)) (fun i a b => VR_ne (hr9 i a b) eh64 (Or.inl (by (first | decide +kernel | omega))) (by (first | decide +kernel | omega))) (VR_s (by assumption) (by (first | decide +kernel | omega)) eh64 (by (first | decide +kernel | omega)) z63E hv9) (by (first | decide +kernel | omega))
              ·
                refine V_aload_n 0 d_Walks_find_35 rfl rfl ?_
                refine V_aload_n 1 d_Walks_find_36 rfl rfl ?_
                refine V_getR fa_Walks_20 sk_0 rfl d_Walks_find_37 ?_
                refine V_iload d_Walks_find_40 rfl ?_
                refine V_iload d_Walks_find_42 rfl ?_
                refine V_iconst 1 d_Walks_find_44 (by decide) ?_
                refine V_iadd v6E tc_1 (by (first | decide +kernel | omega)) d_Walks_find_45 (fun z68 z68e z68E => ?_)
                refine N_callVI [.ref 1, .int v41, .int z68] [] cv_Walks_32 sk_93 rfl d_Walks_find_46 rfl (Nat.le_of_ble_eq_true rfl) (by decide) (by decide) (c_Walks_bestBesideX h42 Ih42 v41 v41Z v41E z68 ((v6Z + 1)) z68E w wZ wE K43 g gZ gE K44 (by (first | decide +kernel | omega)) (by (first | decide +kernel | omega))) (fun z69 h70 z69Z z69E p71 => ?_)
                obtain ⟨eh70, p71⟩ := p71
                subst eh70
                refine V_goto 53 d_Walks_find_49 (by decide) ?_
                have hto : z69Z = bbN ((vv9 (svC h pZ mZ oZ) wZ gZ nZ) (nZ - 1 - (v6Z + 1)).toNat) wZ gZ v41Z 4 := z69E.symm.trans (p71.trans (bbN_cg (by (first | decide +kernel | omega)) (by (first | decide +kernel | omega)) (by (first | decide +kernel | omega)) (fun i hi => by have q9 := hr9 (v6Z + 1) (by (first | decide +kernel | omega)) (by (first | decide +kernel | omega)) i (by (first | decide +kernel | omega)) hi; rw [Nat.zero_add] at q9; exact q9) 4 (by (first | decide +kernel | omega))))
                have hbt := bbN_4 (f := (vv9 (svC h pZ mZ oZ) wZ gZ nZ) (nZ - 1 - (v6Z + 1)).toNat) (W := wZ) (G := gZ) (c := v41Z) (by (first | decide +kernel | omega)) (by (first | decide +kernel | omega)) (by (first | decide +kernel | omega))
                refine V_istore 7 [some (.ref 93), some (.ref 0), some (.int c), some (.int o), some (.int n), some (.int v6), some (.int v41), some (.int z69)] d_Walks_find_53 (by decide) rfl rfl ?_
                refine V_aload_n 0 d_Walks_find_55 rfl rfl ?_
                refine V_getR fa_Walks_11 sk_93 rfl d_Walks_find_56 ?_
                refine V_iload d_Walks_find_59 rfl ?_
                refine V_aald (r := (95 + (v6Z).toNat)) sk_94 (by decide) v6E (by (first | decide +kernel | omega)) (gridAt (by (first | decide +kernel | omega))) d_Walks_find_61 ?_
                refine V_iload d_Walks_find_62 rfl ?_
                refine V_aload_n 1 d_Walks_find_64 rfl rfl ?_
                refine V_iload d_Walks_find_65 rfl ?_
                refine V_iload_n 3 d_Walks_find_67 rfl rfl ?_
                refine V_iload d_Walks_find_68 rfl ?_
                refine V_iconst 1 d_Walks_find_70 (by decide) ?_
                refine V_iadd v6E tc_1 (by (first | decide +kernel | omega)) d_Walks_find_71 (fun z72 z72e z72E => ?_)
                refine N_callSI [.ref 0, .int v41, .int o, .int z72] [.int v41, .ref (95 + (v6Z).toNat)] cs_Walks_36 d_Walks_find_72 rfl (Nat.le_of_ble_eq_true rfl) (by decide) (by decide) (c_Walks_shownInX h42 Ih42 v41 v41Z v41E o oZ oE z72 ((v6Z + 1)) z72E p pZ pE K45 m mZ mE K46 (by (first | decide +kernel | omega)) (by (first | decide +kernel | omega)) (fun i hi => by rw [Fh42.1 3 i rfl]; exact hy2 i hi)) (fun z73 h74 z73Z z73E p75 => ?_)
                obtain ⟨eh74, p75⟩ := p75
                subst eh74
                have hsv : z73Z = svC h pZ mZ oZ (v41Z).toNat (v6Z + 1) := z73E.symm.trans (p75.trans (svC_fr Fh42 rfl))
                have hsb := svv_b (twC h pZ mZ (v41Z).toNat oZ (v6Z + 1)) (h.1 2 (v41Z).toNat).toInt
                have hsb2 : -1 ≤ z73Z ∧ z73Z ≤ 2 := by rw [hsv]; exact hsb
                refine V_iload d_Walks_find_75 rfl ?_
                refine V_if_ge 84 z69E d_Walks_find_77 (by decide) (fun c76 => ?_) (fun c76 => ?_)
                ·
                  refine V_aload_n 0 d_Walks_find_84 rfl rfl ?_
                  refine V_getR fa_Walks_11 sk_93 rfl d_Walks_find_85 ?_
                  refine V_iload d_Walks_find_88 rfl ?_
                  refine V_iconst 1 d_Walks_find_90 (by decide) ?_
                  refine V_iadd v6E tc_1 (by (first | decide +kernel | omega)) d_Walks_find_91 (fun z77 z77e z77E => ?_)
                  refine V_aald (r := (95 + ((v6Z + 1)).toNat)) sk_94 (by decide) z77E (by (first | decide +kernel | omega)) (gridAt (by (first | decide +kernel | omega))) d_Walks_find_92 ?_
                  refine V_iload d_Walks_find_93 rfl ?_
                  refine N_iald (gridSk (by (first | decide +kernel | omega))) z69E (by (first | decide +kernel | omega)) d_Walks_find_95 (fun z78 z78Z z78E z78e => ?_)
                  have hx0 : z78Z = (vv9 (svC h pZ mZ oZ) wZ gZ nZ) (nZ - 1 - (v6Z + 1)).toNat (z69Z).toNat := by have q9 := hr9 (v6Z + 1) (by (first | decide +kernel | omega)) (by (first | decide +kernel | omega)) (z69Z).toNat (by (first | decide +kernel | omega)) (by (first | decide +kernel | omega)); rw [Nat.zero_add] at q9; rw [← z78E, z78e]; exact q9
                  have hxb := hb0 (nZ - 1 - (v6Z + 1)).toNat (z69Z).toNat
                  rw [← hx0] at hxb
                  refine V_iadd z73E z78E (by (first | decide +kernel | omega)) d_Walks_find_96 (fun z79 z79e z79E => ?_)
                  have hv9 : (z73Z + z78Z) = (vv9 (svC h pZ mZ oZ) wZ gZ nZ) (nZ - 1 - v6Z).toNat (v41Z).toNat := by rw [vv9_s (by (first | decide +kernel | omega)) (by (first | decide +kernel | omega)) (by (first | decide +kernel | omega)), ← hto, ← hx0, ← hsv]
                  refine N_iast (gridSk (by (first | decide +kernel | omega))) v41E (by (first | decide +kernel | omega)) d_Walks_find_97 (fun h80 eh80 => ?_)
                  have hI81 : Inv h80 := inv_full Ih42 eh80 (gridRg (by (first | decide +kernel | omega)) _)
                  have f82 : fr S_Walks_findX h h80 := fr_put Fh42 eh80 (gridIn (by (first | decide +kernel | omega)) rfl _)
                  obtain ⟨z83, z83E, z83e⟩ : ∃ y : Int32, y.toInt = v41Z + 1 ∧ y = v41 + Int32.ofInt 1 := ⟨_, ti_add v41E (by decide) (by (first | decide +kernel | omega)), rfl⟩
                  refine V_iinc 6 [some (.ref 93), some (.ref 0), some (.int c), some (.int o), some (.int n), some (.int v6), some (.int z83), some (.int z69)] d_Walks_find_98 rfl z83e.symm (by decide) rfl rfl ?_
                  refine V_goto 14 d_Walks_find_101 (by decide) ?_
                  refine V_drop 7 [some (.ref 93), some (.ref 0), some (.int c), some (.int o), some (.int n), some (.int v6), some (.int z83), none] rfl ?_
                  exact ihL39 z83 ((v41Z + 1)) h80 z83E hI81 f82 (kn_ne eh80 K43 (by (first | decide +kernel | omega))) (kn_ne eh80 K44 (by (first | decide +kernel | omega))) (kn_ne eh80 K45 (by (first | decide +kernel | omega))) (kn_ne eh80 K46 (by (first | decide +kernel | omega))) (by (first | decide +kernel | omega)) (fun i a b => VR_ne (hr9 i a b) eh80 (Or.inl (by (first | decide +kernel | omega))) (by (first | decide +kernel | omega))) (VR_s (by assumption) (by (first | decide +kernel | omega)) eh80 (by (first | decide +kernel | omega)) z79E hv9) (by (first | decide +kernel | omega))
                ·
                  refine V_iconst 0 d_Walks_find_80 (by decide) ?_
                  refine V_goto 96 d_Walks_find_81 (by decide) ?_
                  refine V_iadd z73E tc_0 (by (first | decide +kernel | omega)) d_Walks_find_96 (fun z84 z84e z84E => ?_)
                  have hv9 : (z73Z + 0) = (vv9 (svC h pZ mZ oZ) wZ gZ nZ) (nZ - 1 - v6Z).toNat (v41Z).toNat := by rw [vv9_n (by (first | decide +kernel | omega)), ← hsv]; omega
                  refine N_iast (gridSk (by (first | decide +kernel | omega))) v41E (by (first | decide +kernel | omega)) d_Walks_find_97 (fun h85 eh85 => ?_)
                  have hI86 : Inv h85 := inv_full Ih42 eh85 (gridRg (by (first | decide +kernel | omega)) _)
                  have f87 : fr S_Walks_findX h h85 := fr_put Fh42 eh85 (gridIn (by (first | decide +kernel | omega)) rfl _)
                  obtain ⟨z88, z88E, z88e⟩ : ∃ y : Int32, y.toInt = v41Z + 1 ∧ y = v41 + Int32.ofInt 1 := ⟨_, ti_add v41E (by decide) (by (first | decide +kernel | omega)), rfl⟩
                  refine V_iinc 6 [some (.ref 93), some (.ref 0), some (.int c), some (.int o), some (.int n), some (.int v6), some (.int z88), some (.int z69)] d_Walks_find_98 rfl z88e.symm (by decide) rfl rfl ?_
                  refine V_goto 14 d_Walks_find_101 (by decide) ?_
                  refine V_drop 7 [some (.ref 93), some (.ref 0), some (.int c), some (.int o), some (.int n), some (.int v6), some (.int z88), none] rfl ?_
                  exact ihL39 z88 ((v41Z + 1)) h85 z88E hI86 f87 (kn_ne eh85 K43 (by (first | decide +kernel | omega))) (kn_ne eh85 K44 (by (first | decide +kernel | omega))) (kn_ne eh85 K45 (by (first | decide +kernel | omega))) (kn_ne eh85 K46 (by (first | decide +kernel | omega))) (by (first | decide +kernel | omega)) (fun i a b => VR_ne (hr9 i a b) eh85 (Or.inl (by (first | decide +kernel | omega))) (by (first | decide +kernel | omega))) (VR_s (by assumption) (by (first | decide +kernel | omega)) eh85 (by (first | decide +kernel | omega)) z84E hv9) (by (first | decide +kernel | omega))
        exact L39 (Int.toNat ((16 - 0 : Int) + 1)) 0 0 h7 tc_0 Ih7 Fh7 K8 K9 K10 K11 (by (first | decide +kernel | omega)) (by assumption) VR_0 (by (first | decide +kernel | omega))
  exact L4 (Int.toNat (((nZ - 1) + 1 : Int) + 1)) z3 ((nZ - 1)) h z3E hI f0 wK gK pK mK (by (first | decide +kernel | omega)) (fun i a b => by (first | decide +kernel | omega)) (by (first | decide +kernel | omega))
abbrev q_Walks_mostX (h : Hp) (c : Int32) (cZ : Int) : Option Value → Hp → Prop := pInt (fun r h' => h = h' ∧ (r.toInt = 10 + (h.1 95 cZ.toNat).toInt))
set_option maxRecDepth 100000 in
theorem c_Walks_mostX (h : Hp) (hI : Inv h) (c : Int32) (cZ : Int) (cE : c.toInt = cZ) (hy0 : 0 ≤ cZ ∧ cZ ≤ 15) (hy1 : -100 ≤ (h.1 95 cZ.toNat).toInt ∧ (h.1 95 cZ.toNat).toInt ≤ 100) : Ct y_Walks_most b_Walks_most 2 (some .int) 0 0 [.ref 93, .int c] h (q_Walks_mostX h c cZ) := by
  refine ct_ow R_Walks [some (.ref 93), some (.int c)] rfl (by decide) rfl (Nat.le_of_ble_eq_true rfl) ?_
  have f0 : fr [] h h := fr_rf
  obtain ⟨uv, uvZ, uvE, uvK⟩ : ∃ (y : Int32) (Y : Int), y.toInt = Y ∧ h.1 95 (cZ).toNat = y := ⟨_, _, rfl, rfl⟩
  rw [uvK, uvE] at hy1
  refine V_bipush 10 d_Walks_most_0 (by decide) ?_
  refine V_aload_n 0 d_Walks_most_2 rfl rfl ?_
  refine V_getR fa_Walks_11 sk_93 rfl d_Walks_most_3 ?_
  refine V_iconst 0 d_Walks_most_6 (by decide) ?_
  refine V_aald (r := 95) sk_94 (by decide) tc_0 (by (first | decide +kernel | omega)) rfl d_Walks_most_7 ?_
  refine V_iload_n 1 d_Walks_most_8 rfl rfl ?_
  refine N_ialdK sk_95 cE (by (first | decide +kernel | omega)) d_Walks_most_9 uvK ?_
  refine V_iadd tc_10 uvE (by (first | decide +kernel | omega)) d_Walks_most_10 (fun z2 z2e z2E => ?_)
  exact V_iret rfl d_Walks_most_11 ⟨z2, rfl, ⟨rfl, (by rw [uvK, uvE, z2E])⟩⟩
def S_Rod_showX : List (Nat × Option Nat) := [(95, none), (96, none), (97, none), (98, none), (99, none), (100, none), (101, none)]
abbrev q_Rod_showX (h : Hp) (c : Int32) (cZ : Int) (o : Int32) (oZ : Int) (n : Int32) (nZ : Int) (a : Int32) (aZ : Int) (w : Int32) (wZ : Int) (g : Int32) (gZ : Int) (p : Int32) (pZ : Int) (m : Int32) (mZ : Int) : Option Value → Hp → Prop := pInt (fun r h' => Inv h' ∧ fr S_Rod_showX h h' ∧ (TSa ((0 ≤ cZ ∧ cZ < wZ * gZ) ∧ (0 ≤ oZ ∧ oZ ≤ 3) ∧ (1 ≤ nZ ∧ nZ ≤ 6) ∧ (aZ = 0 ∨ 10 ≤ aZ ∧ aZ - 10 < nZ)) r (SWr (vv9 (svC h pZ mZ oZ) wZ gZ nZ) wZ gZ nZ cZ aZ)))
set_option maxRecDepth 100000 in
theorem c_Rod_showX (h : Hp) (hI : Inv h) (c : Int32) (cZ : Int) (cE : c.toInt = cZ) (o : Int32) (oZ : Int) (oE : o.toInt = oZ) (n : Int32) (nZ : Int) (nE : n.toInt = nZ) (a : Int32) (aZ : Int) (aE : a.toInt = aZ) (w : Int32) (wZ : Int) (wE : w.toInt = wZ) (wK : h.1 1 0 = w) (g : Int32) (gZ : Int) (gE : g.toInt = gZ) (gK : h.1 1 1 = g) (p : Int32) (pZ : Int) (pE : p.toInt = pZ) (pK : h.1 0 3 = p) (m : Int32) (mZ : Int) (mE : m.toInt = mZ) (mK : h.1 0 4 = m) (hy0 : ∀ i : Nat, i < 16 → 0 ≤ (h.1 3 i).toInt ∧ (h.1 3 i).toInt ≤ 1) : Ct y_Rod_show b_Rod_show 5 (some .int) 5 117 [.ref 85, .int c, .int o, .int n, .int a] h (q_Rod_showX h c cZ o oZ n nZ a aZ w wZ g gZ p pZ m mZ) := by
  refine ct_ow R_Rod [some (.ref 85), some (.int c), some (.int o), some (.int n), some (.int a)] rfl (by decide) rfl (Nat.le_of_ble_eq_true rfl) ?_
  have f0 : fr S_Rod_showX h h := fr_rf
  have g1 : 2 ≤ wZ ∧ wZ ≤ 4 := inv_at hI wE wK.symm rfl
  have g2 : 2 ≤ gZ ∧ gZ ≤ 4 := inv_at hI gE gK.symm rfl
  have aB := And.intro (ti_lo a) (ti_hi a)
  rw [aE] at aB
  have m24 := mul24 (A := wZ) (B := gZ) (by (first | decide +kernel | omega)) (by (first | decide +kernel | omega))
  refine V_aload_n 0 d_Rod_show_0 rfl rfl ?_
  refine V_getR fa_Rod_12 sk_85 rfl d_Rod_show_1 ?_
  refine V_getR fa_Rod_91 sk_0 rfl d_Rod_show_4 ?_
  refine V_iload_n 1 d_Rod_show_7 rfl rfl ?_
  refine N_callVI [.int c] [] cv_Rod_124 sk_1 rfl d_Rod_show_8 rfl (Nat.le_of_ble_eq_true rfl) (by decide) (by decide) (c_Land_hasX_0 h hI c cZ cE w wZ wE wK g gZ gE gK) (fun z3 h4 z3Z z3E p5 => ?_)
  obtain ⟨eh4, p5⟩ := p5
  subst eh4
  refine V_if_eq 32 z3E d_Rod_show_11 (by decide) (fun c6 => ?_) (fun c6 => ?_)
  ·
    refine V_iconst (-1) d_Rod_show_32 (by decide) ?_
    exact V_iret rfl d_Rod_show_33 ⟨(-1), rfl, ⟨hI, f0, (Or.inr ⟨by (first | decide +kernel | omega), tc_m1⟩)⟩⟩
  ·
    refine V_iload_n 2 d_Rod_show_14 rfl rfl ?_
    refine N_callSI [.int o] [] cs_Rod_151 d_Rod_show_15 rfl (Nat.le_of_ble_eq_true rfl) (by decide) (by decide) (c_Rod_isOwner h o oZ oE) (fun z7 h8 z7Z z7E p9 => ?_)
    obtain ⟨eh8, p9⟩ := p9
    subst eh8
    refine V_if_eq 32 z7E d_Rod_show_18 (by decide) (fun c10 => ?_) (fun c10 => ?_)
    ·
      refine V_iconst (-1) d_Rod_show_32 (by decide) ?_
      exact V_iret rfl d_Rod_show_33 ⟨(-1), rfl, ⟨hI, f0, (Or.inr ⟨by (first | decide +kernel | omega), tc_m1⟩)⟩⟩
    ·
      refine V_iload_n 3 d_Rod_show_21 rfl rfl ?_
      refine V_iconst 1 d_Rod_show_22 (by decide) ?_
      refine V_icmp_lt 32 nE tc_1 d_Rod_show_23 (by decide) (fun c11 => ?_) (fun c11 => ?_)
      ·
        refine V_iconst (-1) d_Rod_show_32 (by decide) ?_
        exact V_iret rfl d_Rod_show_33 ⟨(-1), rfl, ⟨hI, f0, (Or.inr ⟨by (first | decide +kernel | omega), tc_m1⟩)⟩⟩
      ·
        refine V_iload_n 3 d_Rod_show_26 rfl rfl ?_
        refine V_bipush 6 d_Rod_show_27 (by decide) ?_
        refine V_icmp_le 34 nE tc_6 d_Rod_show_29 (by decide) (fun c12 => ?_) (fun c12 => ?_)
        ·
          refine V_iload d_Rod_show_34 rfl ?_
          refine V_if_eq 57 aE d_Rod_show_36 (by decide) (fun c13 => ?_) (fun c13 => ?_)
          ·
            refine V_aload_n 0 d_Rod_show_57 rfl rfl ?_
            refine V_getR fa_Rod_42 sk_85 rfl d_Rod_show_58 ?_
            refine V_aload_n 0 d_Rod_show_61 rfl rfl ?_
            refine V_getR fa_Rod_12 sk_85 rfl d_Rod_show_62 ?_
            refine V_iload_n 1 d_Rod_show_65 rfl rfl ?_
            refine V_iload_n 2 d_Rod_show_66 rfl rfl ?_
            refine V_iload_n 3 d_Rod_show_67 rfl rfl ?_
            refine N_callVV [.ref 0, .int c, .int o, .int n] [] cv_Rod_217 sk_93 rfl d_Rod_show_68 rfl (Nat.le_of_ble_eq_true rfl) (by decide) (by decide) (c_Walks_findX h hI c cZ cE o oZ oE n nZ nE w wZ wE wK g gZ gE gK p pZ pE pK m mZ mE mK (by (first | decide +kernel | omega)) (by (first | decide +kernel | omega)) hy0) (fun h15 p16 => ?_)
            obtain ⟨hI17, fh15, p16⟩ := p16
            have f18 : fr S_Rod_showX h h15 := fr_call f0 fh15 rfl
            have hvb := vv9_b (sv := svC h pZ mZ oZ) (W := wZ) (G := gZ) (n := nZ) (fun c s => svv_b _ _) (nZ - 1).toNat cZ.toNat
            have h95 : (h15.1 95 cZ.toNat).toInt = (vv9 (svC h pZ mZ oZ) wZ gZ nZ) (nZ - 1).toNat cZ.toNat := by have q9 := p16.1 0 (by (first | decide +kernel | omega)) (by (first | decide +kernel | omega)) cZ.toNat (by (first | decide +kernel | omega)) (by (first | decide +kernel | omega)); rw [Nat.zero_add, show nZ - 1 - 0 = nZ - 1 by (first | decide +kernel | omega)] at q9; exact q9
            refine V_iload d_Rod_show_71 rfl ?_
            refine V_if_ne 87 aE d_Rod_show_73 (by decide) (fun c19 => ?_) (fun c19 => ?_)
            ·
              refine V_aload_n 0 d_Rod_show_87 rfl rfl ?_
              refine V_getR fa_Rod_42 sk_85 rfl d_Rod_show_88 ?_
              refine V_getR fa_Rod_224 sk_93 rfl d_Rod_show_91 ?_
              refine V_iload d_Rod_show_94 rfl ?_
              refine V_bipush 10 d_Rod_show_96 (by decide) ?_
              refine V_isub aE tc_10 (by (first | decide +kernel | omega)) d_Rod_show_98 (fun z20 z20e z20E => ?_)
              refine N_iald sk_101 z20E (by (first | decide +kernel | omega)) d_Rod_show_99 (fun z21 z21Z z21E z21e => ?_)
              exact V_iret rfl d_Rod_show_100 ⟨z21, rfl, ⟨hI17, f18, (Or.inl ⟨by (first | decide +kernel | omega), by unfold SWr; rw [if_neg (by (first | decide +kernel | omega)), z21e]; exact p16.2 _ (by (first | decide +kernel | omega))⟩)⟩⟩
            ·
              refine V_aload_n 0 d_Rod_show_76 rfl rfl ?_
              refine V_getR fa_Rod_42 sk_85 rfl d_Rod_show_77 ?_
              refine V_iload_n 1 d_Rod_show_80 rfl rfl ?_
              refine N_callVI [.int c] [] cv_Rod_221 sk_93 rfl d_Rod_show_81 rfl (Nat.le_of_ble_eq_true rfl) (by decide) (by decide) (c_Walks_mostX h15 hI17 c cZ cE (by (first | decide +kernel | omega)) (by rw [h95]; omega)) (fun z22 h23 z22Z z22E p24 => ?_)
              obtain ⟨eh23, p24⟩ := p24
              subst eh23
              refine V_goto 100 d_Rod_show_84 (by decide) ?_
              exact V_iret rfl d_Rod_show_100 ⟨z22, rfl, ⟨hI17, f18, (Or.inl ⟨by (first | decide +kernel | omega), by unfold SWr; rw [if_pos (by (first | decide +kernel | omega)), p24, h95]⟩)⟩⟩
          ·
            refine V_iload d_Rod_show_39 rfl ?_
            refine V_bipush 10 d_Rod_show_41 (by decide) ?_
            refine V_icmp_lt 55 aE tc_10 d_Rod_show_43 (by decide) (fun c25 => ?_) (fun c25 => ?_)
            ·
              refine V_iconst (-1) d_Rod_show_55 (by decide) ?_
              exact V_iret rfl d_Rod_show_56 ⟨(-1), rfl, ⟨hI, f0, (Or.inr ⟨by (first | decide +kernel | omega), tc_m1⟩)⟩⟩
            ·
              refine V_iload d_Rod_show_46 rfl ?_
              refine V_bipush 10 d_Rod_show_48 (by decide) ?_
              refine V_isub aE tc_10 (by (first | decide +kernel | omega)) d_Rod_show_50 (fun z26 z26e z26E => ?_)
              refine V_iload_n 3 d_Rod_show_51 rfl rfl ?_
              refine V_icmp_lt 57 z26E nE d_Rod_show_52 (by decide) (fun c27 => ?_) (fun c27 => ?_)
              ·
                refine V_aload_n 0 d_Rod_show_57 rfl rfl ?_
                refine V_getR fa_Rod_42 sk_85 rfl d_Rod_show_58 ?_
                refine V_aload_n 0 d_Rod_show_61 rfl rfl ?_
                refine V_getR fa_Rod_12 sk_85 rfl d_Rod_show_62 ?_
                refine V_iload_n 1 d_Rod_show_65 rfl rfl ?_
                refine V_iload_n 2 d_Rod_show_66 rfl rfl ?_
                refine V_iload_n 3 d_Rod_show_67 rfl rfl ?_
                refine N_callVV [.ref 0, .int c, .int o, .int n] [] cv_Rod_217 sk_93 rfl d_Rod_show_68 rfl (Nat.le_of_ble_eq_true rfl) (by decide) (by decide) (c_Walks_findX h hI c cZ cE o oZ oE n nZ nE w wZ wE wK g gZ gE gK p pZ pE pK m mZ mE mK (by (first | decide +kernel | omega)) (by (first | decide +kernel | omega)) hy0) (fun h29 p30 => ?_)
                obtain ⟨hI31, fh29, p30⟩ := p30
                have f32 : fr S_Rod_showX h h29 := fr_call f0 fh29 rfl
                have hvb := vv9_b (sv := svC h pZ mZ oZ) (W := wZ) (G := gZ) (n := nZ) (fun c s => svv_b _ _) (nZ - 1).toNat cZ.toNat
                have h95 : (h29.1 95 cZ.toNat).toInt = (vv9 (svC h pZ mZ oZ) wZ gZ nZ) (nZ - 1).toNat cZ.toNat := by have q9 := p30.1 0 (by (first | decide +kernel | omega)) (by (first | decide +kernel | omega)) cZ.toNat (by (first | decide +kernel | omega)) (by (first | decide +kernel | omega)); rw [Nat.zero_add, show nZ - 1 - 0 = nZ - 1 by (first | decide +kernel | omega)] at q9; exact q9
                refine V_iload d_Rod_show_71 rfl ?_
                refine V_if_ne 87 aE d_Rod_show_73 (by decide) (fun c33 => ?_) (fun c33 => ?_)
                ·
                  refine V_aload_n 0 d_Rod_show_87 rfl rfl ?_
                  refine V_getR fa_Rod_42 sk_85 rfl d_Rod_show_88 ?_
                  refine V_getR fa_Rod_224 sk_93 rfl d_Rod_show_91 ?_
                  refine V_iload d_Rod_show_94 rfl ?_
                  refine V_bipush 10 d_Rod_show_96 (by decide) ?_
                  refine V_isub aE tc_10 (by (first | decide +kernel | omega)) d_Rod_show_98 (fun z34 z34e z34E => ?_)
                  refine N_iald sk_101 z34E (by (first | decide +kernel | omega)) d_Rod_show_99 (fun z35 z35Z z35E z35e => ?_)
                  exact V_iret rfl d_Rod_show_100 ⟨z35, rfl, ⟨hI31, f32, (Or.inl ⟨by (first | decide +kernel | omega), by unfold SWr; rw [if_neg (by (first | decide +kernel | omega)), z35e]; exact p30.2 _ (by (first | decide +kernel | omega))⟩)⟩⟩
                ·
                  refine V_aload_n 0 d_Rod_show_76 rfl rfl ?_
                  refine V_getR fa_Rod_42 sk_85 rfl d_Rod_show_77 ?_
                  refine V_iload_n 1 d_Rod_show_80 rfl rfl ?_
                  refine N_callVI [.int c] [] cv_Rod_221 sk_93 rfl d_Rod_show_81 rfl (Nat.le_of_ble_eq_true rfl) (by decide) (by decide) (c_Walks_mostX h29 hI31 c cZ cE (by (first | decide +kernel | omega)) (by rw [h95]; omega)) (fun z36 h37 z36Z z36E p38 => ?_)
                  obtain ⟨eh37, p38⟩ := p38
                  subst eh37
                  refine V_goto 100 d_Rod_show_84 (by decide) ?_
                  exact V_iret rfl d_Rod_show_100 ⟨z36, rfl, ⟨hI31, f32, (Or.inl ⟨by (first | decide +kernel | omega), by unfold SWr; rw [if_pos (by (first | decide +kernel | omega)), p38, h95]⟩)⟩⟩
              ·
                refine V_iconst (-1) d_Rod_show_55 (by decide) ?_
                exact V_iret rfl d_Rod_show_56 ⟨(-1), rfl, ⟨hI, f0, (Or.inr ⟨by (first | decide +kernel | omega), tc_m1⟩)⟩⟩
        ·
          refine V_iconst (-1) d_Rod_show_32 (by decide) ?_
          exact V_iret rfl d_Rod_show_33 ⟨(-1), rfl, ⟨hI, f0, (Or.inr ⟨by (first | decide +kernel | omega), tc_m1⟩)⟩⟩
def S_Mod_findShownX : List (Nat × Option Nat) := [(122, none)]
abbrev q_Mod_findShownX (h : Hp) (o : Int32) (oZ : Int) (n : Int32) (nZ : Int) (w : Int32) (wZ : Int) (g : Int32) (gZ : Int) (p : Int32) (pZ : Int) (m : Int32) (mZ : Int) : Option Value → Hp → Prop := pVd (fun h' => Inv h' ∧ fr S_Mod_findShownX h h' ∧ (∀ i : Int, 1 ≤ i → i ≤ nZ → VR (vv9 (svM h pZ mZ oZ) wZ gZ nZ) (wZ * gZ) h' 122 (16 * i.toNat) (nZ - i).toNat 16))
set_option maxRecDepth 100000 in
theorem c_Mod_findShownX (h : Hp) (hI : Inv h) (o : Int32) (oZ : Int) (oE : o.toInt = oZ) (n : Int32) (nZ : Int) (nE : n.toInt = nZ) (w : Int32) (wZ : Int) (wE : w.toInt = wZ) (wK : h.1 116 2 = w) (g : Int32) (gZ : Int) (gE : g.toInt = gZ) (gK : h.1 116 3 = g) (p : Int32) (pZ : Int) (pE : p.toInt = pZ) (pK : h.1 117 84 = p) (m : Int32) (mZ : Int) (mE : m.toInt = mZ) (mK : h.1 117 85 = m) (hy0 : 1 ≤ nZ ∧ nZ ≤ 6) : Ct y_Mod_findShown b_Mod_findShown 6 none 3 68 [.ref 116, .int o, .int n] h (q_Mod_findShownX h o oZ n nZ w wZ g gZ p pZ m mZ) := by
  refine ct_ow R_Mod [some (.ref 116), some (.int o), some (.int n), none, none, none] rfl (by decide) rfl (Nat.le_of_ble_eq_true rfl) ?_
  have f0 : fr S_Mod_findShownX h h := fr_rf
  have g1 : 2 ≤ wZ ∧ wZ ≤ 4 := inv_at hI wE wK.symm rfl
  have g2 : 2 ≤ gZ ∧ gZ ≤ 4 := inv_at hI gE gK.symm rfl
  have m24 := mul24 (A := wZ) (B := gZ) (by (first | decide +kernel | omega)) (by (first | decide +kernel | omega))
  refine V_iload_n 2 d_Mod_findShown_0 rfl rfl ?_
  refine V_istore_n 3 [some (.ref 116), some (.int o), some (.int n), some (.int n), none, none] d_Mod_findShown_1 rfl (by decide) rfl rfl ?_
  have L3 : ∀ (nn : Nat) (v5 : Int32) (v5Z : Int) (h6 : Hp), v5.toInt = v5Z → Inv h6 → fr S_Mod_findShownX h h6 → h6.1 116 2 = w → h6.1 116 3 = g → h6.1 117 84 = p → h6.1 117 85 = m → 0 ≤ v5Z ∧ v5Z ≤ nZ → (∀ i : Int, v5Z < i → i ≤ nZ → VR (vv9 (svM h pZ mZ oZ) wZ gZ nZ) (wZ * gZ) h6 122 (16 * i.toNat) (nZ - i).toNat 16) → v5Z < (nn : Int) → V R_Mod b_Mod_findShown 6 none 3 68 (q_Mod_findShownX h o oZ n nZ w wZ g gZ p pZ m mZ) h6 2 [some (.ref 116), some (.int o), some (.int n), some (.int v5), none, none] [] := by
    intro nn
    induction nn with
    | zero => intro v5 v5Z h6 v5E Ih6 Fh6 K7 K8 K9 K10 q11 q12 hm13; exact absurd hm13 (by (first | decide +kernel | omega))
    | succ nn ihL3 =>
      intro v5 v5Z h6 v5E Ih6 Fh6 K7 K8 K9 K10 q11 q12 hm13
      refine V_iload_n 3 d_Mod_findShown_2 rfl rfl ?_
      refine V_iconst 1 d_Mod_findShown_3 (by decide) ?_
      refine V_icmp_lt 86 v5E tc_1 d_Mod_findShown_4 (by decide) (fun c14 => ?_) (fun c14 => ?_)
      ·
        exact V_vret rfl d_Mod_findShown_86 ⟨rfl, ⟨Ih6, Fh6, (fun i a b => (show (∀ i : Int, v5Z < i → i ≤ nZ → VR (vv9 (svM h pZ mZ oZ) wZ gZ nZ) (wZ * gZ) h6 122 (16 * i.toNat) (nZ - i).toNat 16) from by assumption) i (by (first | decide +kernel | omega)) b)⟩⟩
      ·
        refine V_iconst 0 d_Mod_findShown_7 (by decide) ?_
        refine V_istore 4 [some (.ref 116), some (.int o), some (.int n), some (.int v5), some (.int 0), none] d_Mod_findShown_8 (by decide) rfl rfl ?_
        have L15 : ∀ (nn : Nat) (v17 : Int32) (v17Z : Int) (h18 : Hp), v17.toInt = v17Z → Inv h18 → fr S_Mod_findShownX h h18 → h18.1 116 2 = w → h18.1 116 3 = g → h18.1 117 84 = p → h18.1 117 85 = m → 0 ≤ v17Z ∧ v17Z ≤ wZ * gZ → (∀ i : Int, v5Z < i → i ≤ nZ → VR (vv9 (svM h pZ mZ oZ) wZ gZ nZ) (wZ * gZ) h18 122 (16 * i.toNat) (nZ - i).toNat 16) → VR (vv9 (svM h pZ mZ oZ) wZ gZ nZ) (wZ * gZ) h18 122 (16 * (v5Z).toNat) (nZ - v5Z).toNat v17Z → 16 - v17Z < (nn : Int) → V R_Mod b_Mod_findShown 6 none 3 68 (q_Mod_findShownX h o oZ n nZ w wZ g gZ p pZ m mZ) h18 10 [some (.ref 116), some (.int o), some (.int n), some (.int v5), some (.int v17), none] [] := by
          intro nn
          induction nn with
          | zero => intro v17 v17Z h18 v17E Ih18 Fh18 K19 K20 K21 K22 q23 q24 q25 hm26; exact absurd hm26 (by (first | decide +kernel | omega))
          | succ nn ihL15 =>
            intro v17 v17Z h18 v17E Ih18 Fh18 K19 K20 K21 K22 q23 q24 q25 hm26
            refine V_iload d_Mod_findShown_10 rfl ?_
            refine V_aload_n 0 d_Mod_findShown_12 rfl rfl ?_
            refine N_callVI [] [.int v17] cv_Mod_183 sk_116 rfl d_Mod_findShown_13 rfl (Nat.le_of_ble_eq_true rfl) (by decide) (by decide) (c_Mod_cellMany h18 Ih18 w wZ wE K19 g gZ gE K20) (fun z27 h28 z27Z z27E p29 => ?_)
            obtain ⟨eh28, p29⟩ := p29
            subst eh28
            refine V_icmp_ge 80 v17E z27E d_Mod_findShown_16 (by decide) (fun c30 => ?_) (fun c30 => ?_)
            ·
              obtain ⟨z31, z31E, z31e⟩ : ∃ y : Int32, y.toInt = v5Z + (-1) ∧ y = v5 + Int32.ofInt (-1) := ⟨_, ti_add v5E (by decide) (by (first | decide +kernel | omega)), rfl⟩
              refine V_iinc 3 [some (.ref 116), some (.int o), some (.int n), some (.int z31), some (.int v17), none] d_Mod_findShown_80 rfl z31e.symm (by decide) rfl rfl ?_
              refine V_goto 2 d_Mod_findShown_83 (by decide) ?_
              refine V_drop 4 [some (.ref 116), some (.int o), some (.int n), some (.int z31), none, none] rfl ?_
              exact ihL3 z31 ((v5Z + (-1))) h18 z31E Ih18 Fh18 K19 K20 K21 K22 (by (first | decide +kernel | omega)) (fun i a b => by by_cases q : i = v5Z; exact (by rw [q]; exact fun c hc hw => (show VR (vv9 (svM h pZ mZ oZ) wZ gZ nZ) (wZ * gZ) h18 122 (16 * (v5Z).toNat) (nZ - v5Z).toNat v17Z from by assumption) c (by (first | decide +kernel | omega)) hw); exact (show (∀ i : Int, v5Z < i → i ≤ nZ → VR (vv9 (svM h pZ mZ oZ) wZ gZ nZ) (wZ * gZ) h18 122 (16 * i.toNat) (nZ - i).toNat 16) from by assumption) i (by (first | decide +kernel | omega)) b) (by (first | decide +kernel | omega))
            ·
              have hr9 : (∀ i : Int, v5Z < i → i ≤ nZ → VR (vv9 (svM h pZ mZ oZ) wZ gZ nZ) (wZ * gZ) h18 122 (16 * i.toNat) (nZ - i).toNat 16) := by assumption
              have hb0 := vv9_b (sv := svM h pZ mZ oZ) (W := wZ) (G := gZ) (n := nZ) (fun c s => svv_b _ _)
              refine V_iload_n 3 d_Mod_findShown_19 rfl rfl ?_
              refine V_iload_n 2 d_Mod_findShown_20 rfl rfl ?_
              refine V_icmp_ne 28 v5E nE d_Mod_findShown_21 (by decide) (fun c32 => ?_) (fun c32 => ?_)
              ·
                refine V_aload_n 0 d_Mod_findShown_28 rfl rfl ?_
                refine V_getR fa_Mod_26 sk_116 rfl d_Mod_findShown_29 ?_
                refine V_bipush 16 d_Mod_findShown_32 (by decide) ?_
                refine V_iload_n 3 d_Mod_findShown_34 rfl rfl ?_
                refine V_iconst 1 d_Mod_findShown_35 (by decide) ?_
                refine V_iadd v5E tc_1 (by (first | decide +kernel | omega)) d_Mod_findShown_36 (fun z33 z33e z33E => ?_)
                refine V_imul tc_16 z33E (by (first | decide +kernel | omega)) d_Mod_findShown_37 (fun z34 z34e z34E => ?_)
                refine V_aload_n 0 d_Mod_findShown_38 rfl rfl ?_
                refine V_iload d_Mod_findShown_39 rfl ?_
                refine V_iload_n 3 d_Mod_findShown_41 rfl rfl ?_
                refine V_iconst 1 d_Mod_findShown_42 (by decide) ?_
                refine V_iadd v5E tc_1 (by (first | decide +kernel | omega)) d_Mod_findShown_43 (fun z35 z35e z35E => ?_)
                refine N_callVI [.int v17, .int z35] [.int z34, .ref 122] cv_Mod_246 sk_116 rfl d_Mod_findShown_44 rfl (Nat.le_of_ble_eq_true rfl) (by decide) (by decide) (c_Mod_bestBesideX h18 Ih18 v17 v17Z v17E z35 ((v5Z + 1)) z35E w wZ wE K19 g gZ gE K20 (by (first | decide +kernel | omega)) (by (first | decide +kernel | omega))) (fun z36 h37 z36Z z36E p38 => ?_)
                obtain ⟨eh37, p38⟩ := p38
                subst eh37
                have hto : z36Z = bbN ((vv9 (svM h pZ mZ oZ) wZ gZ nZ) (nZ - (v5Z + 1)).toNat) wZ gZ v17Z 4 := z36E.symm.trans (p38.trans (bbN_cg (by (first | decide +kernel | omega)) (by (first | decide +kernel | omega)) (by (first | decide +kernel | omega)) (fun i hi => hr9 (v5Z + 1) (by (first | decide +kernel | omega)) (by (first | decide +kernel | omega)) i (by (first | decide +kernel | omega)) hi) 4 (by (first | decide +kernel | omega))))
                have hbt := bbN_4 (f := (vv9 (svM h pZ mZ oZ) wZ gZ nZ) (nZ - (v5Z + 1)).toNat) (W := wZ) (G := gZ) (c := v17Z) (by (first | decide +kernel | omega)) (by (first | decide +kernel | omega)) (by (first | decide +kernel | omega))
                refine V_iadd z34E z36E (by (first | decide +kernel | omega)) d_Mod_findShown_47 (fun z39 z39e z39E => ?_)
                refine N_iald sk_122 z39E (by (first | decide +kernel | omega)) d_Mod_findShown_48 (fun z40 z40Z z40E z40e => ?_)
                have hx0 : z40Z = (vv9 (svM h pZ mZ oZ) wZ gZ nZ) (nZ - (v5Z + 1)).toNat (z36Z).toNat := by have q9 := hr9 (v5Z + 1) (by (first | decide +kernel | omega)) (by (first | decide +kernel | omega)) (z36Z).toNat (by (first | decide +kernel | omega)) (by (first | decide +kernel | omega)); rw [← z40E, z40e, show (16 * (v5Z + 1) + z36Z).toNat = 16 * (v5Z + 1).toNat + (z36Z).toNat by (first | decide +kernel | omega)]; exact q9
                have hxb := hb0 (nZ - (v5Z + 1)).toNat (z36Z).toNat
                rw [← hx0] at hxb
                refine V_istore 5 [some (.ref 116), some (.int o), some (.int n), some (.int v5), some (.int v17), some (.int z40)] d_Mod_findShown_49 (by decide) rfl rfl ?_
                refine V_aload_n 0 d_Mod_findShown_51 rfl rfl ?_
                refine V_getR fa_Mod_26 sk_116 rfl d_Mod_findShown_52 ?_
                refine V_bipush 16 d_Mod_findShown_55 (by decide) ?_
                refine V_iload_n 3 d_Mod_findShown_57 rfl rfl ?_
                refine V_imul tc_16 v5E (by (first | decide +kernel | omega)) d_Mod_findShown_58 (fun z41 z41e z41E => ?_)
                refine V_iload d_Mod_findShown_59 rfl ?_
                refine V_iadd z41E v17E (by (first | decide +kernel | omega)) d_Mod_findShown_61 (fun z42 z42e z42E => ?_)
                refine V_aload_n 0 d_Mod_findShown_62 rfl rfl ?_
                refine V_iload d_Mod_findShown_63 rfl ?_
                refine V_iload_n 1 d_Mod_findShown_65 rfl rfl ?_
                refine V_iload_n 3 d_Mod_findShown_66 rfl rfl ?_
                refine N_callVI [.int v17, .int o, .int v5] [.int z42, .ref 122] cv_Mod_249 sk_116 rfl d_Mod_findShown_67 rfl (Nat.le_of_ble_eq_true rfl) (by decide) (by decide) (c_Mod_showsInX h18 Ih18 v17 v17Z v17E o oZ oE v5 v5Z v5E p pZ pE K21 m mZ mE K22 (by (first | decide +kernel | omega)) (by (first | decide +kernel | omega))) (fun z43 h44 z43Z z43E p45 => ?_)
                obtain ⟨eh44, p45⟩ := p45
                subst eh44
                have hsv : z43Z = svM h pZ mZ oZ (v17Z).toNat v5Z := z43E.symm.trans (p45.trans (svM_fr Fh18 rfl))
                have hsb2 : -1 ≤ z43Z ∧ z43Z ≤ 2 := by rw [hsv]; exact svv_b _ _
                refine V_iload d_Mod_findShown_70 rfl ?_
                refine V_iadd z43E z40E (by (first | decide +kernel | omega)) d_Mod_findShown_72 (fun z46 z46e z46E => ?_)
                have hv9 : (z43Z + z40Z) = (vv9 (svM h pZ mZ oZ) wZ gZ nZ) (nZ - v5Z).toNat (v17Z).toNat := by have q9 := vv9_s (sv := svM h pZ mZ oZ) (W := wZ) (G := gZ) (n := nZ) (L := (v5Z - 1)) (c := v17Z) (by (first | decide +kernel | omega)) (by (first | decide +kernel | omega)) (by (first | decide +kernel | omega)); rw [show nZ - 1 - (v5Z - 1) = nZ - v5Z by (first | decide +kernel | omega), show (v5Z - 1) + 1 = v5Z by (first | decide +kernel | omega), show nZ - 1 - v5Z = nZ - (v5Z + 1) by (first | decide +kernel | omega)] at q9; rw [q9, ← hto, ← hx0, ← hsv]
                refine N_iast sk_122 z42E (by (first | decide +kernel | omega)) d_Mod_findShown_73 (fun h47 eh47 => ?_)
                have hI48 : Inv h47 := inv_full Ih18 eh47 rfl
                have f49 : fr S_Mod_findShownX h h47 := fr_put Fh18 eh47 rfl
                obtain ⟨z50, z50E, z50e⟩ : ∃ y : Int32, y.toInt = v17Z + 1 ∧ y = v17 + Int32.ofInt 1 := ⟨_, ti_add v17E (by decide) (by (first | decide +kernel | omega)), rfl⟩
                refine V_iinc 4 [some (.ref 116), some (.int o), some (.int n), some (.int v5), some (.int z50), some (.int z40)] d_Mod_findShown_74 rfl z50e.symm (by decide) rfl rfl ?_
                refine V_goto 10 d_Mod_findShown_77 (by decide) ?_
                refine V_drop 5 [some (.ref 116), some (.int o), some (.int n), some (.int v5), some (.int z50), none] rfl ?_
                exact ihL15 z50 ((v17Z + 1)) h47 z50E hI48 f49 (kn_ne eh47 K19 (by decide)) (kn_ne eh47 K20 (by decide)) (kn_ne eh47 K21 (by decide)) (kn_ne eh47 K22 (by decide)) (by (first | decide +kernel | omega)) (fun i a b => VR_ne (hr9 i a b) eh47 (Or.inr (by (first | decide +kernel | omega))) (by (first | decide +kernel | omega))) (VR_s (by assumption) (by (first | decide +kernel | omega)) eh47 (by (first | decide +kernel | omega)) z46E hv9) (by (first | decide +kernel | omega))
              ·
                refine V_iconst 0 d_Mod_findShown_24 (by decide) ?_
                refine V_goto 49 d_Mod_findShown_25 (by decide) ?_
                refine V_istore 5 [some (.ref 116), some (.int o), some (.int n), some (.int v5), some (.int v17), some (.int 0)] d_Mod_findShown_49 (by decide) rfl rfl ?_
                refine V_aload_n 0 d_Mod_findShown_51 rfl rfl ?_
                refine V_getR fa_Mod_26 sk_116 rfl d_Mod_findShown_52 ?_
                refine V_bipush 16 d_Mod_findShown_55 (by decide) ?_
                refine V_iload_n 3 d_Mod_findShown_57 rfl rfl ?_
                refine V_imul tc_16 v5E (by (first | decide +kernel | omega)) d_Mod_findShown_58 (fun z51 z51e z51E => ?_)
                refine V_iload d_Mod_findShown_59 rfl ?_
                refine V_iadd z51E v17E (by (first | decide +kernel | omega)) d_Mod_findShown_61 (fun z52 z52e z52E => ?_)
                refine V_aload_n 0 d_Mod_findShown_62 rfl rfl ?_
                refine V_iload d_Mod_findShown_63 rfl ?_
                refine V_iload_n 1 d_Mod_findShown_65 rfl rfl ?_
                refine V_iload_n 3 d_Mod_findShown_66 rfl rfl ?_
                refine N_callVI [.int v17, .int o, .int v5] [.int z52, .ref 122] cv_Mod_249 sk_116 rfl d_Mod_findShown_67 rfl (Nat.le_of_ble_eq_true rfl) (by decide) (by decide) (c_Mod_showsInX h18 Ih18 v17 v17Z v17E o oZ oE v5 v5Z v5E p pZ pE K21 m mZ mE K22 (by (first | decide +kernel | omega)) (by (first | decide +kernel | omega))) (fun z53 h54 z53Z z53E p55 => ?_)
                obtain ⟨eh54, p55⟩ := p55
                subst eh54
                have hsv : z53Z = svM h pZ mZ oZ (v17Z).toNat v5Z := z53E.symm.trans (p55.trans (svM_fr Fh18 rfl))
                have hsb2 : -1 ≤ z53Z ∧ z53Z ≤ 2 := by rw [hsv]; exact svv_b _ _
                refine V_iload d_Mod_findShown_70 rfl ?_
                refine V_iadd z53E tc_0 (by (first | decide +kernel | omega)) d_Mod_findShown_72 (fun z56 z56e z56E => ?_)
                have hv9 : (z53Z + 0) = (vv9 (svM h pZ mZ oZ) wZ gZ nZ) (nZ - v5Z).toNat (v17Z).toNat := by rw [show (nZ - v5Z).toNat = 0 by (first | decide +kernel | omega)]; show _ = svM h pZ mZ oZ (v17Z).toNat nZ; rw [show nZ = v5Z by (first | decide +kernel | omega), ← hsv]; omega
                refine N_iast sk_122 z52E (by (first | decide +kernel | omega)) d_Mod_findShown_73 (fun h57 eh57 => ?_)
                have hI58 : Inv h57 := inv_full Ih18 eh57 rfl
                have f59 : fr S_Mod_findShownX h h57 := fr_put Fh18 eh57 rfl
                obtain ⟨z60, z60E, z60e⟩ : ∃ y : Int32, y.toInt = v17Z + 1 ∧ y = v17 + Int32.ofInt 1 := ⟨_, ti_add v17E (by decide) (by (first | decide +kernel | omega)), rfl⟩
                refine V_iinc 4 [some (.ref 116), some (.int o), some (.int n), some (.int v5), some (.int z60), some (.int 0)] d_Mod_findShown_74 rfl z60e.symm (by decide) rfl rfl ?_
                refine V_goto 10 d_Mod_findShown_77 (by decide) ?_
                refine V_drop 5 [some (.ref 116), some (.int o), some (.int n), some (.int v5), some (.int z60), none] rfl ?_
                exact ihL15 z60 ((v17Z + 1)) h57 z60E hI58 f59 (kn_ne eh57 K19 (by decide)) (kn_ne eh57 K20 (by decide)) (kn_ne eh57 K21 (by decide)) (kn_ne eh57 K22 (by decide)) (by (first | decide +kernel | omega)) (fun i a b => VR_ne (hr9 i a b) eh57 (Or.inr (by (first | decide +kernel | omega))) (by (first | decide +kernel | omega))) (VR_s (by assumption) (by (first | decide +kernel | omega)) eh57 (by (first | decide +kernel | omega)) z56E hv9) (by (first | decide +kernel | omega))
        exact L15 (Int.toNat ((16 - 0 : Int) + 1)) 0 0 h6 tc_0 Ih6 Fh6 K7 K8 K9 K10 (by (first | decide +kernel | omega)) (by assumption) VR_0 (by (first | decide +kernel | omega))
  exact L3 (Int.toNat ((nZ : Int) + 1)) n nZ h nE hI f0 wK gK pK mK (by (first | decide +kernel | omega)) (fun i a b => by (first | decide +kernel | omega)) (by (first | decide +kernel | omega))
def S_Mod_showX : List (Nat × Option Nat) := [(122, none)]
abbrev q_Mod_showX (h : Hp) (c : Int32) (cZ : Int) (o : Int32) (oZ : Int) (n : Int32) (nZ : Int) (a : Int32) (aZ : Int) (w : Int32) (wZ : Int) (g : Int32) (gZ : Int) (p : Int32) (pZ : Int) (m : Int32) (mZ : Int) : Option Value → Hp → Prop := pInt (fun r h' => Inv h' ∧ fr S_Mod_showX h h' ∧ (TSa ((0 ≤ cZ ∧ cZ < wZ * gZ) ∧ (0 ≤ oZ ∧ oZ ≤ 3) ∧ (1 ≤ nZ ∧ nZ ≤ 6) ∧ (aZ = 0 ∨ 10 ≤ aZ ∧ aZ - 10 < nZ)) r (SWr (vv9 (svM h pZ mZ oZ) wZ gZ nZ) wZ gZ nZ cZ aZ)))
set_option maxRecDepth 100000 in
theorem c_Mod_showX (h : Hp) (hI : Inv h) (c : Int32) (cZ : Int) (cE : c.toInt = cZ) (o : Int32) (oZ : Int) (oE : o.toInt = oZ) (n : Int32) (nZ : Int) (nE : n.toInt = nZ) (a : Int32) (aZ : Int) (aE : a.toInt = aZ) (w : Int32) (wZ : Int) (wE : w.toInt = wZ) (wK : h.1 116 2 = w) (g : Int32) (gZ : Int) (gE : g.toInt = gZ) (gK : h.1 116 3 = g) (p : Int32) (pZ : Int) (pE : p.toInt = pZ) (pK : h.1 117 84 = p) (m : Int32) (mZ : Int) (mE : m.toInt = mZ) (mK : h.1 117 85 = m) : Ct y_Mod_show b_Mod_show 7 (some .int) 4 93 [.ref 116, .int c, .int o, .int n, .int a] h (q_Mod_showX h c cZ o oZ n nZ a aZ w wZ g gZ p pZ m mZ) := by
  refine ct_ow R_Mod [some (.ref 116), some (.int c), some (.int o), some (.int n), some (.int a), none, none] rfl (by decide) rfl (Nat.le_of_ble_eq_true rfl) ?_
  have f0 : fr S_Mod_showX h h := fr_rf
  have g1 : 2 ≤ wZ ∧ wZ ≤ 4 := inv_at hI wE wK.symm rfl
  have g2 : 2 ≤ gZ ∧ gZ ≤ 4 := inv_at hI gE gK.symm rfl
  have aB := And.intro (ti_lo a) (ti_hi a)
  rw [aE] at aB
  have m24 := mul24 (A := wZ) (B := gZ) (by (first | decide +kernel | omega)) (by (first | decide +kernel | omega))
  refine V_aload_n 0 d_Mod_show_0 rfl rfl ?_
  refine V_iload_n 1 d_Mod_show_1 rfl rfl ?_
  refine N_callVI [.int c] [] cv_Mod_200 sk_116 rfl d_Mod_show_2 rfl (Nat.le_of_ble_eq_true rfl) (by decide) (by decide) (c_Mod_isCellX h hI c cZ cE w wZ wE wK g gZ gE gK) (fun z3 h4 z3Z z3E p5 => ?_)
  obtain ⟨eh4, p5⟩ := p5
  subst eh4
  refine V_if_eq 49 z3E d_Mod_show_5 (by decide) (fun c6 => ?_) (fun c6 => ?_)
  ·
    refine V_iconst (-1) d_Mod_show_49 (by decide) ?_
    exact V_iret rfl d_Mod_show_50 ⟨(-1), rfl, ⟨hI, f0, (Or.inr ⟨by (first | decide +kernel | omega), tc_m1⟩)⟩⟩
  ·
    refine V_iload_n 2 d_Mod_show_8 rfl rfl ?_
    refine N_callSI [.int o] [] cs_Mod_205 d_Mod_show_9 rfl (Nat.le_of_ble_eq_true rfl) (by decide) (by decide) (c_Mod_isOwner h o oZ oE) (fun z7 h8 z7Z z7E p9 => ?_)
    obtain ⟨eh8, p9⟩ := p9
    subst eh8
    refine V_if_eq 49 z7E d_Mod_show_12 (by decide) (fun c10 => ?_) (fun c10 => ?_)
    ·
      refine V_iconst (-1) d_Mod_show_49 (by decide) ?_
      exact V_iret rfl d_Mod_show_50 ⟨(-1), rfl, ⟨hI, f0, (Or.inr ⟨by (first | decide +kernel | omega), tc_m1⟩)⟩⟩
    ·
      refine V_iload_n 3 d_Mod_show_15 rfl rfl ?_
      refine V_i2l d_Mod_show_16 (fun z11 z11e z11E => ?_)
      have z11F : z11.toInt = nZ := z11E.trans nE
      refine V_lconst 1 d_Mod_show_17 (by decide) ?_
      refine V_ldc2 d_Mod_show_18 wl_Mod_253 ?_
      refine N_callSI [.long z11, .long 1, .long 6] [] cs_Mod_95 d_Mod_show_21 rfl (Nat.le_of_ble_eq_true rfl) (by decide) (by decide) (c_Mod_in h z11 nZ z11F 1 1 tl_1 6 6 tl_6) (fun z12 h13 z12Z z12E p14 => ?_)
      obtain ⟨eh13, p14⟩ := p14
      subst eh13
      refine V_if_eq 49 z12E d_Mod_show_24 (by decide) (fun c15 => ?_) (fun c15 => ?_)
      ·
        refine V_iconst (-1) d_Mod_show_49 (by decide) ?_
        exact V_iret rfl d_Mod_show_50 ⟨(-1), rfl, ⟨hI, f0, (Or.inr ⟨by (first | decide +kernel | omega), tc_m1⟩)⟩⟩
      ·
        refine V_iload d_Mod_show_27 rfl ?_
        refine V_if_eq 51 aE d_Mod_show_29 (by decide) (fun c16 => ?_) (fun c16 => ?_)
        ·
          refine V_aload_n 0 d_Mod_show_51 rfl rfl ?_
          refine V_iload_n 2 d_Mod_show_52 rfl rfl ?_
          refine V_iload_n 3 d_Mod_show_53 rfl rfl ?_
          refine N_callVV [.int o, .int n] [] cv_Mod_255 sk_116 rfl d_Mod_show_54 rfl (Nat.le_of_ble_eq_true rfl) (by decide) (by decide) (c_Mod_findShownX h hI o oZ oE n nZ nE w wZ wE wK g gZ gE gK p pZ pE pK m mZ mE mK (by (first | decide +kernel | omega))) (fun h18 p19 => ?_)
          obtain ⟨hI20, fh18, p19⟩ := p19
          have f21 : fr S_Mod_showX h h18 := fr_call f0 fh18 rfl
          have hvb := vv9_b (sv := svM h pZ mZ oZ) (W := wZ) (G := gZ) (n := nZ) (fun c s => svv_b _ _) (nZ - 1).toNat cZ.toNat
          have h122 : (h18.1 122 (16 + cZ).toNat).toInt = (vv9 (svM h pZ mZ oZ) wZ gZ nZ) (nZ - 1).toNat cZ.toNat := by have q9 := p19 1 (by (first | decide +kernel | omega)) (by (first | decide +kernel | omega)) cZ.toNat (by (first | decide +kernel | omega)) (by (first | decide +kernel | omega)); rw [show (16 + cZ).toNat = 16 * (1 : Int).toNat + cZ.toNat by (first | decide +kernel | omega)]; exact q9
          refine V_iload d_Mod_show_57 rfl ?_
          refine V_if_ne 75 aE d_Mod_show_59 (by decide) (fun c22 => ?_) (fun c22 => ?_)
          ·
            refine V_iload_n 1 d_Mod_show_75 rfl rfl ?_
            refine V_istore 5 [some (.ref 116), some (.int c), some (.int o), some (.int n), some (.int a), some (.int c), none] d_Mod_show_76 (by decide) rfl rfl ?_
            refine V_iconst 0 d_Mod_show_78 (by decide) ?_
            refine V_istore 6 [some (.ref 116), some (.int c), some (.int o), some (.int n), some (.int a), some (.int c), some (.int 0)] d_Mod_show_79 (by decide) rfl rfl ?_
            have L23 : ∀ (nn : Nat) (v25 : Int32) (v25Z : Int) (v26 : Int32) (v26Z : Int), v25.toInt = v25Z → v26.toInt = v26Z → 0 ≤ v26Z ∧ v26Z ≤ aZ - 10 → v25Z = (pth (vv9 (svM h pZ mZ oZ) wZ gZ nZ) wZ gZ nZ cZ) (v26Z).toNat → aZ - 10 - v26Z < (nn : Int) → V R_Mod b_Mod_show 7 (some .int) 4 93 (q_Mod_showX h c cZ o oZ n nZ a aZ w wZ g gZ p pZ m mZ) h18 81 [some (.ref 116), some (.int c), some (.int o), some (.int n), some (.int a), some (.int v25), some (.int v26)] [] := by
              intro nn
              induction nn with
              | zero => intro v25 v25Z v26 v26Z v25E v26E q27 q28 hm29; exact absurd hm29 (by (first | decide +kernel | omega))
              | succ nn ihL23 =>
                intro v25 v25Z v26 v26Z v25E v26E q27 q28 hm29
                refine V_iload d_Mod_show_81 rfl ?_
                refine V_iload d_Mod_show_83 rfl ?_
                refine V_bipush 10 d_Mod_show_85 (by decide) ?_
                refine V_isub aE tc_10 (by (first | decide +kernel | omega)) d_Mod_show_87 (fun z30 z30e z30E => ?_)
                refine V_icmp_ge 109 v26E z30E d_Mod_show_88 (by decide) (fun c31 => ?_) (fun c31 => ?_)
                ·
                  refine V_iload d_Mod_show_109 rfl ?_
                  exact V_iret rfl d_Mod_show_111 ⟨v25, rfl, ⟨hI20, f21, (Or.inl ⟨by (first | decide +kernel | omega), by unfold SWr; rw [if_neg (by (first | decide +kernel | omega)), v25E, show (aZ - 10).toNat = (v26Z).toNat by (first | decide +kernel | omega)]; assumption⟩)⟩⟩
                ·
                  have hpb := pth_b (v := (vv9 (svM h pZ mZ oZ) wZ gZ nZ)) (W := wZ) (G := gZ) (n := nZ) (c := cZ) (by (first | decide +kernel | omega)) (by (first | decide +kernel | omega)) (by (first | decide +kernel | omega)) (v26Z).toNat
                  have hp6 : v25Z = (pth (vv9 (svM h pZ mZ oZ) wZ gZ nZ) wZ gZ nZ cZ) (v26Z).toNat := by assumption
                  rw [← hp6] at hpb
                  refine V_aload_n 0 d_Mod_show_91 rfl rfl ?_
                  refine V_iload d_Mod_show_92 rfl ?_
                  refine V_iload d_Mod_show_94 rfl ?_
                  refine V_iconst 2 d_Mod_show_96 (by decide) ?_
                  refine V_iadd v26E tc_2 (by (first | decide +kernel | omega)) d_Mod_show_97 (fun z32 z32e z32E => ?_)
                  refine N_callVI [.int v25, .int z32] [] cv_Mod_246 sk_116 rfl d_Mod_show_98 rfl (Nat.le_of_ble_eq_true rfl) (by decide) (by decide) (c_Mod_bestBesideX h18 hI20 v25 v25Z v25E z32 ((v26Z + 2)) z32E w wZ wE (kn_call fh18 wK rfl) g gZ gE (kn_call fh18 gK rfl) (by (first | decide +kernel | omega)) (by (first | decide +kernel | omega))) (fun z33 h34 z33Z z33E p35 => ?_)
                  obtain ⟨eh34, p35⟩ := p35
                  subst eh34
                  have hx7 : z33Z = (pth (vv9 (svM h pZ mZ oZ) wZ gZ nZ) wZ gZ nZ cZ) (v26Z + 1).toNat := by rw [pth_s (by (first | decide +kernel | omega)), show v26Z + 1 - 1 = v26Z by (first | decide +kernel | omega), ← hp6, ← z33E, p35]; exact bbN_cg (by (first | decide +kernel | omega)) (by (first | decide +kernel | omega)) (by (first | decide +kernel | omega)) (fun i hi => by have q9 := p19 (v26Z + 2) (by (first | decide +kernel | omega)) (by (first | decide +kernel | omega)) i (by (first | decide +kernel | omega)) hi; rw [show nZ - (v26Z + 2) = nZ - 1 - (v26Z + 1) by (first | decide +kernel | omega)] at q9; exact q9) 4 (by (first | decide +kernel | omega))
                  refine V_istore 5 [some (.ref 116), some (.int c), some (.int o), some (.int n), some (.int a), some (.int z33), some (.int v26)] d_Mod_show_101 (by decide) rfl rfl ?_
                  obtain ⟨z36, z36E, z36e⟩ : ∃ y : Int32, y.toInt = v26Z + 1 ∧ y = v26 + Int32.ofInt 1 := ⟨_, ti_add v26E (by decide) (by (first | decide +kernel | omega)), rfl⟩
                  refine V_iinc 6 [some (.ref 116), some (.int c), some (.int o), some (.int n), some (.int a), some (.int z33), some (.int z36)] d_Mod_show_103 rfl z36e.symm (by decide) rfl rfl ?_
                  refine V_goto 81 d_Mod_show_106 (by decide) ?_
                  exact ihL23 z33 z33Z z36 ((v26Z + 1)) z33E z36E (by (first | decide +kernel | omega)) hx7 (by (first | decide +kernel | omega))
            exact L23 (Int.toNat ((aZ - 10 - 0 : Int) + 1)) c cZ 0 0 cE tc_0 (by (first | decide +kernel | omega)) rfl (by (first | decide +kernel | omega))
          ·
            refine V_bipush 10 d_Mod_show_62 (by decide) ?_
            refine V_aload_n 0 d_Mod_show_64 rfl rfl ?_
            refine V_getR fa_Mod_26 sk_116 rfl d_Mod_show_65 ?_
            refine V_bipush 16 d_Mod_show_68 (by decide) ?_
            refine V_iload_n 1 d_Mod_show_70 rfl rfl ?_
            refine V_iadd tc_16 cE (by (first | decide +kernel | omega)) d_Mod_show_71 (fun z37 z37e z37E => ?_)
            refine N_iald sk_122 z37E (by (first | decide +kernel | omega)) d_Mod_show_72 (fun z38 z38Z z38E z38e => ?_)
            rw [← z38e, z38E] at h122
            rw [← h122] at hvb
            refine V_iadd tc_10 z38E (by (first | decide +kernel | omega)) d_Mod_show_73 (fun z39 z39e z39E => ?_)
            exact V_iret rfl d_Mod_show_74 ⟨z39, rfl, ⟨hI20, f21, (Or.inl ⟨by (first | decide +kernel | omega), by unfold SWr; rw [if_pos (by (first | decide +kernel | omega)), z39E, h122]⟩)⟩⟩
        ·
          refine V_iload d_Mod_show_32 rfl ?_
          refine V_bipush 10 d_Mod_show_34 (by decide) ?_
          refine N_isubw d_Mod_show_36 (fun z40 z40Z z40E z40e => ?_)
          have g41 := subw_ti aE tc_10 z40e z40E
          refine V_i2l d_Mod_show_37 (fun z42 z42e z42E => ?_)
          have z42F : z42.toInt = z40Z := z42E.trans z40E
          refine V_lconst 0 d_Mod_show_38 (by decide) ?_
          refine V_iload_n 3 d_Mod_show_39 rfl rfl ?_
          refine V_iconst 1 d_Mod_show_40 (by decide) ?_
          refine V_isub nE tc_1 (by (first | decide +kernel | omega)) d_Mod_show_41 (fun z43 z43e z43E => ?_)
          refine V_i2l d_Mod_show_42 (fun z44 z44e z44E => ?_)
          have z44F : z44.toInt = (nZ - 1) := z44E.trans z43E
          refine N_callSI [.long z42, .long 0, .long z44] [] cs_Mod_95 d_Mod_show_43 rfl (Nat.le_of_ble_eq_true rfl) (by decide) (by decide) (c_Mod_in h z42 z40Z z42F 0 0 tl_0 z44 ((nZ - 1)) z44F) (fun z45 h46 z45Z z45E p47 => ?_)
          obtain ⟨eh46, p47⟩ := p47
          subst eh46
          refine V_if_ne 51 z45E d_Mod_show_46 (by decide) (fun c48 => ?_) (fun c48 => ?_)
          ·
            refine V_aload_n 0 d_Mod_show_51 rfl rfl ?_
            refine V_iload_n 2 d_Mod_show_52 rfl rfl ?_
            refine V_iload_n 3 d_Mod_show_53 rfl rfl ?_
            refine N_callVV [.int o, .int n] [] cv_Mod_255 sk_116 rfl d_Mod_show_54 rfl (Nat.le_of_ble_eq_true rfl) (by decide) (by decide) (c_Mod_findShownX h hI o oZ oE n nZ nE w wZ wE wK g gZ gE gK p pZ pE pK m mZ mE mK (by (first | decide +kernel | omega))) (fun h50 p51 => ?_)
            obtain ⟨hI52, fh50, p51⟩ := p51
            have f53 : fr S_Mod_showX h h50 := fr_call f0 fh50 rfl
            have hvb := vv9_b (sv := svM h pZ mZ oZ) (W := wZ) (G := gZ) (n := nZ) (fun c s => svv_b _ _) (nZ - 1).toNat cZ.toNat
            have h122 : (h50.1 122 (16 + cZ).toNat).toInt = (vv9 (svM h pZ mZ oZ) wZ gZ nZ) (nZ - 1).toNat cZ.toNat := by have q9 := p51 1 (by (first | decide +kernel | omega)) (by (first | decide +kernel | omega)) cZ.toNat (by (first | decide +kernel | omega)) (by (first | decide +kernel | omega)); rw [show (16 + cZ).toNat = 16 * (1 : Int).toNat + cZ.toNat by (first | decide +kernel | omega)]; exact q9
            refine V_iload d_Mod_show_57 rfl ?_
            refine V_if_ne 75 aE d_Mod_show_59 (by decide) (fun c54 => ?_) (fun c54 => ?_)
            ·
              refine V_iload_n 1 d_Mod_show_75 rfl rfl ?_
              refine V_istore 5 [some (.ref 116), some (.int c), some (.int o), some (.int n), some (.int a), some (.int c), none] d_Mod_show_76 (by decide) rfl rfl ?_
              refine V_iconst 0 d_Mod_show_78 (by decide) ?_
              refine V_istore 6 [some (.ref 116), some (.int c), some (.int o), some (.int n), some (.int a), some (.int c), some (.int 0)] d_Mod_show_79 (by decide) rfl rfl ?_
              have L55 : ∀ (nn : Nat) (v57 : Int32) (v57Z : Int) (v58 : Int32) (v58Z : Int), v57.toInt = v57Z → v58.toInt = v58Z → 0 ≤ v58Z ∧ v58Z ≤ aZ - 10 → v57Z = (pth (vv9 (svM h pZ mZ oZ) wZ gZ nZ) wZ gZ nZ cZ) (v58Z).toNat → aZ - 10 - v58Z < (nn : Int) → V R_Mod b_Mod_show 7 (some .int) 4 93 (q_Mod_showX h c cZ o oZ n nZ a aZ w wZ g gZ p pZ m mZ) h50 81 [some (.ref 116), some (.int c), some (.int o), some (.int n), some (.int a), some (.int v57), some (.int v58)] [] := by
                intro nn
                induction nn with
                | zero => intro v57 v57Z v58 v58Z v57E v58E q59 q60 hm61; exact absurd hm61 (by (first | decide +kernel | omega))
                | succ nn ihL55 =>
                  intro v57 v57Z v58 v58Z v57E v58E q59 q60 hm61
                  refine V_iload d_Mod_show_81 rfl ?_
                  refine V_iload d_Mod_show_83 rfl ?_
                  refine V_bipush 10 d_Mod_show_85 (by decide) ?_
                  refine V_isub aE tc_10 (by (first | decide +kernel | omega)) d_Mod_show_87 (fun z62 z62e z62E => ?_)
                  refine V_icmp_ge 109 v58E z62E d_Mod_show_88 (by decide) (fun c63 => ?_) (fun c63 => ?_)
                  ·
                    refine V_iload d_Mod_show_109 rfl ?_
                    exact V_iret rfl d_Mod_show_111 ⟨v57, rfl, ⟨hI52, f53, (Or.inl ⟨by (first | decide +kernel | omega), by unfold SWr; rw [if_neg (by (first | decide +kernel | omega)), v57E, show (aZ - 10).toNat = (v58Z).toNat by (first | decide +kernel | omega)]; assumption⟩)⟩⟩
                  ·
                    have hpb := pth_b (v := (vv9 (svM h pZ mZ oZ) wZ gZ nZ)) (W := wZ) (G := gZ) (n := nZ) (c := cZ) (by (first | decide +kernel | omega)) (by (first | decide +kernel | omega)) (by (first | decide +kernel | omega)) (v58Z).toNat
                    have hp6 : v57Z = (pth (vv9 (svM h pZ mZ oZ) wZ gZ nZ) wZ gZ nZ cZ) (v58Z).toNat := by assumption
                    rw [← hp6] at hpb
                    refine V_aload_n 0 d_Mod_show_91 rfl rfl ?_
                    refine V_iload d_Mod_show_92 rfl ?_
                    refine V_iload d_Mod_show_94 rfl ?_
                    refine V_iconst 2 d_Mod_show_96 (by decide) ?_
                    refine V_iadd v58E tc_2 (by (first | decide +kernel | omega)) d_Mod_show_97 (fun z64 z64e z64E => ?_)
                    refine N_callVI [.int v57, .int z64] [] cv_Mod_246 sk_116 rfl d_Mod_show_98 rfl (Nat.le_of_ble_eq_true rfl) (by decide) (by decide) (c_Mod_bestBesideX h50 hI52 v57 v57Z v57E z64 ((v58Z + 2)) z64E w wZ wE (kn_call fh50 wK rfl) g gZ gE (kn_call fh50 gK rfl) (by (first | decide +kernel | omega)) (by (first | decide +kernel | omega))) (fun z65 h66 z65Z z65E p67 => ?_)
                    obtain ⟨eh66, p67⟩ := p67
                    subst eh66
                    have hx7 : z65Z = (pth (vv9 (svM h pZ mZ oZ) wZ gZ nZ) wZ gZ nZ cZ) (v58Z + 1).toNat := by rw [pth_s (by (first | decide +kernel | omega)), show v58Z + 1 - 1 = v58Z by (first | decide +kernel | omega), ← hp6, ← z65E, p67]; exact bbN_cg (by (first | decide +kernel | omega)) (by (first | decide +kernel | omega)) (by (first | decide +kernel | omega)) (fun i hi => by have q9 := p51 (v58Z + 2) (by (first | decide +kernel | omega)) (by (first | decide +kernel | omega)) i (by (first | decide +kernel | omega)) hi; rw [show nZ - (v58Z + 2) = nZ - 1 - (v58Z + 1) by (first | decide +kernel | omega)] at q9; exact q9) 4 (by (first | decide +kernel | omega))
                    refine V_istore 5 [some (.ref 116), some (.int c), some (.int o), some (.int n), some (.int a), some (.int z65), some (.int v58)] d_Mod_show_101 (by decide) rfl rfl ?_
                    obtain ⟨z68, z68E, z68e⟩ : ∃ y : Int32, y.toInt = v58Z + 1 ∧ y = v58 + Int32.ofInt 1 := ⟨_, ti_add v58E (by decide) (by (first | decide +kernel | omega)), rfl⟩
                    refine V_iinc 6 [some (.ref 116), some (.int c), some (.int o), some (.int n), some (.int a), some (.int z65), some (.int z68)] d_Mod_show_103 rfl z68e.symm (by decide) rfl rfl ?_
                    refine V_goto 81 d_Mod_show_106 (by decide) ?_
                    exact ihL55 z65 z65Z z68 ((v58Z + 1)) z65E z68E (by (first | decide +kernel | omega)) hx7 (by (first | decide +kernel | omega))
              exact L55 (Int.toNat ((aZ - 10 - 0 : Int) + 1)) c cZ 0 0 cE tc_0 (by (first | decide +kernel | omega)) rfl (by (first | decide +kernel | omega))
            ·
              refine V_bipush 10 d_Mod_show_62 (by decide) ?_
              refine V_aload_n 0 d_Mod_show_64 rfl rfl ?_
              refine V_getR fa_Mod_26 sk_116 rfl d_Mod_show_65 ?_
              refine V_bipush 16 d_Mod_show_68 (by decide) ?_
              refine V_iload_n 1 d_Mod_show_70 rfl rfl ?_
              refine V_iadd tc_16 cE (by (first | decide +kernel | omega)) d_Mod_show_71 (fun z69 z69e z69E => ?_)
              refine N_iald sk_122 z69E (by (first | decide +kernel | omega)) d_Mod_show_72 (fun z70 z70Z z70E z70e => ?_)
              rw [← z70e, z70E] at h122
              rw [← h122] at hvb
              refine V_iadd tc_10 z70E (by (first | decide +kernel | omega)) d_Mod_show_73 (fun z71 z71e z71E => ?_)
              exact V_iret rfl d_Mod_show_74 ⟨z71, rfl, ⟨hI52, f53, (Or.inl ⟨by (first | decide +kernel | omega), by unfold SWr; rw [if_pos (by (first | decide +kernel | omega)), z71E, h122]⟩)⟩⟩
          ·
            refine V_iconst (-1) d_Mod_show_49 (by decide) ?_
            exact V_iret rfl d_Mod_show_50 ⟨(-1), rfl, ⟨hI, f0, (Or.inr ⟨by (first | decide +kernel | omega), tc_m1⟩)⟩⟩
end
section
noncomputable def lk9 (p : Int) (dA dB dV : Nat → Int) (F : Int → Prop) (o : Int) : Nat → Int
  | 0 => -p
  | n + 1 => lk9 p dA dB dV F o n + (if dA n = o then dV n else 0) - (@ite Int (dB n = o ∧ ¬ F (dA n)) (Classical.propDecidable _) (dV n) 0)
theorem lk9_s {p : Int} {dA dB dV : Nat → Int} {F : Int → Prop} {o n A B V L X Y : Int} (hn : 0 ≤ n) (hA : A = dA n.toNat) (hB : B = dB n.toNat) (hV : V = dV n.toNat) (h : L = lk9 p dA dB dV F o n.toNat) (x1 : A = o ∧ X = L + V ∨ A ≠ o ∧ X = L) (x2 : (B = o ∧ ¬ F A) ∧ Y = X - V ∨ ¬ (B = o ∧ ¬ F A) ∧ Y = X) : Y = lk9 p dA dB dV F o (n + 1).toNat := by
  rw [show (n + 1).toNat = n.toNat + 1 by (first | decide +kernel | omega)]
  show Y = lk9 p dA dB dV F o n.toNat + (if dA n.toNat = o then dV n.toNat else 0) - (@ite Int (dB n.toNat = o ∧ ¬ F (dA n.toNat)) (Classical.propDecidable _) (dV n.toNat) 0)
  rw [← hA, ← hB, ← hV, ← h]
  rcases x1 with ⟨a, b⟩ | ⟨a, b⟩ <;> rcases x2 with ⟨c, d⟩ | ⟨c, d⟩
  · rw [if_pos a, if_pos c]; omega
  · rw [if_pos a, if_neg c]; omega
  · rw [if_neg a, if_pos c]; omega
  · rw [if_neg a, if_neg c]; omega
/-- how much an OWNER lacks: the class's, the reference's -/
noncomputable def LC (h : Hp) (P : Nat → Prop) (o : Int) (k : Nat) : Int := lk9 (h.1 8 o.toNat).toInt (fun i => (h.1 9 i).toInt) (fun i => (h.1 10 i).toInt) (fun i => (h.1 11 i).toInt) (fun x => P x.toNat) o k
noncomputable def LM (h : Hp) (P : Nat → Prop) (o : Int) (k : Nat) : Int := lk9 (h.1 117 (80 + o).toNat).toInt (fun i => (h.1 117 (87 + 3 * i)).toInt) (fun i => (h.1 117 (88 + 3 * i)).toInt) (fun i => (h.1 117 (89 + 3 * i)).toInt) (fun x => P x.toNat) o k
def SR (fl : (Nat → Prop) → Nat → Prop) : Nat → Nat → Prop
  | 0 => fun _ => False
  | r + 1 => fun j => SR fl r j ∨ j < 4 ∧ fl (SR fl r) j
theorem SR_4 {fl : (Nat → Prop) → Nat → Prop} : ∀ (r j : Nat), SR fl r j → j < 4 := by
  intro r
  induction r with
  | zero => intro j h; exact h.elim
  | succ r ih =>
    intro j h
    rcases h with h | h
    · exact ih j h
    · exact h.1
theorem SR_up {fl : (Nat → Prop) → Nat → Prop} {r j : Nat} (h : SR fl r j) : SR fl (r + 1) j := Or.inl h
theorem SR_le {fl : (Nat → Prop) → Nat → Prop} {r j : Nat} (h : SR fl r j) : ∀ d : Nat, SR fl (r + d) j := by
  intro d
  induction d with
  | zero => exact h
  | succ d ih => exact SR_up ih
theorem SR_st {fl : (Nat → Prop) → Nat → Prop} {r : Nat} (h : ∀ j : Nat, SR fl (r + 1) j → SR fl r j) : SR fl (r + 1) = SR fl r := funext (fun j => propext ⟨h j, SR_up⟩)
theorem SR_st2 {fl : (Nat → Prop) → Nat → Prop} {r : Nat} (h : SR fl (r + 1) = SR fl r) : ∀ d : Nat, SR fl (r + d) = SR fl r := by
  intro d
  induction d with
  | zero => rfl
  | succ d ih =>
    have e : SR fl (r + d + 1) = SR fl (r + 1) := by
      show (fun j => SR fl (r + d) j ∨ j < 4 ∧ fl (SR fl (r + d)) j) = (fun j => SR fl r j ∨ j < 4 ∧ fl (SR fl r) j)
      rw [ih]
    exact e.trans h
/-- the first t rounds all take someone, those from t to m nobody -/
def RDs (S : Nat → Nat → Prop) (m : Nat) (t : Int) : Prop := 0 ≤ t ∧ t ≤ (m : Int) ∧ (∀ s : Nat, (s : Int) < t → ∃ j : Nat, S (s + 1) j ∧ ¬ S s j) ∧ ∀ s : Nat, t ≤ (s : Int) → s < m → S (s + 1) = S s
theorem RDs_0 {S : Nat → Nat → Prop} : RDs S 0 0 := ⟨by (first | decide +kernel | omega), by (first | decide +kernel | omega), fun s hs => by (first | decide +kernel | omega), fun s _ hs => by (first | decide +kernel | omega)⟩
theorem RDs_g {fl : (Nat → Prop) → Nat → Prop} {m : Nat} {t : Int} (r : RDs (SR fl) m t) (g : ∃ j : Nat, SR fl (m + 1) j ∧ ¬ SR fl m j) : RDs (SR fl) (m + 1) ((m : Int) + 1) := by
  obtain ⟨r1, r2, r3, r4⟩ := r
  have ht : t = (m : Int) := by
    by_cases q : t = (m : Int)
    · exact q
    · exfalso
      have e := r4 t.toNat (by (first | decide +kernel | omega)) (by (first | decide +kernel | omega))
      have e2 := SR_st2 e (m - t.toNat)
      have e3 := SR_st2 e (m + 1 - t.toNat)
      rw [show t.toNat + (m - t.toNat) = m by (first | decide +kernel | omega)] at e2
      rw [show t.toNat + (m + 1 - t.toNat) = m + 1 by (first | decide +kernel | omega)] at e3
      obtain ⟨j, a, b⟩ := g
      rw [e3] at a
      rw [e2] at b
      exact b a
  refine ⟨by (first | decide +kernel | omega), by (first | decide +kernel | omega), fun s hs => ?_, fun s a b => by (first | decide +kernel | omega)⟩
  by_cases q : s = m
  · rw [q]; exact g
  · exact r3 s (by (first | decide +kernel | omega))
theorem RDs_n {fl : (Nat → Prop) → Nat → Prop} {m : Nat} {t : Int} (r : RDs (SR fl) m t) (g : SR fl (m + 1) = SR fl m) : RDs (SR fl) (m + 1) t := by
  obtain ⟨r1, r2, r3, r4⟩ := r
  refine ⟨r1, by (first | decide +kernel | omega), r3, fun s a b => ?_⟩
  by_cases q : s = m
  · rw [q]; exact g
  · exact r4 s a (by (first | decide +kernel | omega))
/-- in which round someone FAILS -/
def HS (S : Nat → Nat → Prop) (w m : Nat) (x : Int) (none : Int) : Prop := ¬ S m w ∧ x = none ∨ ∃ t : Nat, 1 ≤ t ∧ t ≤ m ∧ S t w ∧ ¬ S (t - 1) w ∧ x = (t : Int)
theorem HS_0 {fl : (Nat → Prop) → Nat → Prop} {w : Nat} {none : Int} : HS (SR fl) w 0 none none := Or.inl ⟨fun h => h, rfl⟩
theorem HS_n {fl : (Nat → Prop) → Nat → Prop} {w m : Nat} {x none : Int} (h : HS (SR fl) w m x none) (g : SR fl (m + 1) w → SR fl m w) : HS (SR fl) w (m + 1) x none := by
  rcases h with ⟨a, b⟩ | ⟨t, a, b, c⟩
  · exact Or.inl ⟨fun q => a (g q), b⟩
  · exact Or.inr ⟨t, a, by (first | decide +kernel | omega), c⟩
theorem HS_g {fl : (Nat → Prop) → Nat → Prop} {w m : Nat} {none : Int} (g : SR fl (m + 1) w) (g2 : ¬ SR fl m w) : HS (SR fl) w (m + 1) ((m : Int) + 1) none := Or.inr ⟨m + 1, by (first | decide +kernel | omega), by (first | decide +kernel | omega), g, g2, by (first | decide +kernel | omega)⟩
/-- nobody is left to fall in the fifth round -/
theorem SR_card {fl : (Nat → Prop) → Nat → Prop} : ∀ m : Nat, (∀ s : Nat, s < m → ∃ j : Nat, SR fl (s + 1) j ∧ ¬ SR fl s j) → m ≤ cP (SR fl m) 4 := by
  intro m
  induction m with
  | zero => intro _; exact Nat.zero_le _
  | succ m ih =>
    intro h
    have i1 := ih (fun s hs => h s (by (first | decide +kernel | omega)))
    obtain ⟨j, a, b⟩ := h m (by (first | decide +kernel | omega))
    have hj := SR_4 (m + 1) j a
    have sp := cP_sp (SR fl (m + 1)) (SR fl m) 4
    have e1 : cP (fun i => SR fl (m + 1) i ∧ SR fl m i) 4 = cP (SR fl m) 4 := cP_cg 4 (fun i _ => ⟨fun q => q.2, fun q => ⟨SR_up q, q⟩⟩)
    have e2 : 1 ≤ cP (fun i => SR fl (m + 1) i ∧ ¬ SR fl m i) 4 := by
      have key : ∀ n : Nat, j < n → 1 ≤ cP (fun i => SR fl (m + 1) i ∧ ¬ SR fl m i) n := by
        intro n
        induction n with
        | zero => intro q; omega
        | succ n ihn =>
          intro q
          by_cases w : j = n
          · subst w
            rw [cP_t (P := fun i => SR fl (m + 1) i ∧ ¬ SR fl m i) ⟨a, b⟩]; omega
          · have := ihn (by (first | decide +kernel | omega))
            by_cases z : SR fl (m + 1) n ∧ ¬ SR fl m n
            · rw [cP_t (P := fun i => SR fl (m + 1) i ∧ ¬ SR fl m i) z]; omega
            · rw [cP_f (P := fun i => SR fl (m + 1) i ∧ ¬ SR fl m i) z]; exact this
      exact key 4 hj
    omega
theorem RDs_4 {fl : (Nat → Prop) → Nat → Prop} {m : Nat} {t : Int} (r : RDs (SR fl) m t) : t ≤ 4 := by
  have h := SR_card (fl := fl) t.toNat (fun s hs => r.2.2.1 s (by have := r.1; omega))
  have := cP_le (SR fl t.toNat) 4
  have := r.1
  omega
theorem RDs_5 {fl : (Nat → Prop) → Nat → Prop} {t : Int} (r : RDs (SR fl) 4 t) : SR fl (4 + 1) = SR fl 4 := by
  by_cases w : t < 4
  · have h0 := r.1
    have e := r.2.2.2 t.toNat (by (first | decide +kernel | omega)) (by (first | decide +kernel | omega))
    have e2 := SR_st2 e (4 - t.toNat)
    have e3 := SR_st2 e (4 + 1 - t.toNat)
    rw [show t.toNat + (4 - t.toNat) = 4 by (first | decide +kernel | omega)] at e2
    rw [show t.toNat + (4 + 1 - t.toNat) = 4 + 1 by (first | decide +kernel | omega)] at e3
    exact e3.trans e2.symm
  · refine SR_st (fun j hj => ?_)
    by_cases z : SR fl 4 j
    · exact z
    · exfalso
      have h := RDs_4 (RDs_g r ⟨j, hj, z⟩)
      omega
theorem BP_z {x : Int32} {P : Nat → Prop} (b : BP x P) {X : Int} (xE : x.toInt = X) (h : X = 0) (j : Nat) : ¬ P j := fun q => by
  have e : x = 0 := same_of (xE.trans h) rfl
  have := (b j).mpr q
  rw [e, BS_0 j] at this
  cases this
theorem BP_nz {x : Int32} {P : Nat → Prop} (b : BP x P) {X : Int} (xE : x.toInt = X) (h : X ≠ 0) : ∃ j : Nat, P j := by
  by_cases q : ∃ j : Nat, P j
  · exact q
  · exfalso
    have e : x = 0 := BP_ext (BP_cg b (fun j => ⟨fun w => q ⟨j, w⟩, fun w => w.elim⟩)) BP_0
    rw [e] at xE
    exact h xE.symm
theorem ti_neg9 {x z : Int32} {A Z : Int} (ha : x.toInt = A) (hA : 0 ≤ A ∧ A ≤ 999) (e : z = -x) (hz : z.toInt = Z) : Z = -A := by
  rw [← hz, e, ← Int32.zero_sub, ti_sub (show (0 : Int32).toInt = 0 from rfl) ha (by (first | decide +kernel | omega))]
  omega
/-- what crash answers, at the end of m rounds -/
def CRX (S : Nat → Nat → Prop) (m : Nat) (a : Int) (r : Int32) : Prop := (∃ t : Int, RDs S m t ∧ (a = 1 → r.toInt = t)) ∧ S (m + 1) = S m ∧ (a = 0 → BP r (S m)) ∧ (10 ≤ a → HS S (a - 10).toNat m r.toInt (-4))
def CRa (S : Nat → Nat → Prop) (a : Int) (r : Int32) : Prop := (a = 0 ∨ a = 1 ∨ 10 ≤ a ∧ a ≤ 13) ∧ (∃ m : Nat, CRX S m a r) ∨ ¬ (a = 0 ∨ a = 1 ∨ 10 ≤ a ∧ a ≤ 13) ∧ r.toInt = -1
end
section
abbrev q_Ledger_lackingX_0 (h : Hp) (P : Nat → Prop) (o : Int32) (oZ : Int) (d : Int32) (dZ : Int) (t : Int32) (tZ : Int) : Option Value → Hp → Prop := pInt (fun r h' => h = h' ∧ (r.toInt = LC h P oZ tZ.toNat ∧ -2000 ≤ r.toInt ∧ r.toInt ≤ 2000))
set_option maxRecDepth 100000 in
theorem c_Ledger_lackingX_0 (h : Hp) (P : Nat → Prop) (hI : Inv h) (o : Int32) (oZ : Int) (oE : o.toInt = oZ) (d : Int32) (dZ : Int) (dE : d.toInt = dZ) (t : Int32) (tZ : Int) (tE : t.toInt = tZ) (tK : h.1 7 4 = t) (hy0 : 0 ≤ oZ ∧ oZ ≤ 3) (hy1 : BP d P) (hy2 : ∀ i : Nat, i < 8 → (i : Int) < (h.1 7 4).toInt → (0 ≤ (h.1 9 i).toInt ∧ (h.1 9 i).toInt ≤ 3) ∧ 0 ≤ (h.1 11 i).toInt ∧ (h.1 11 i).toInt ≤ 99) (hy3 : ∀ i : Nat, i < 4 → 0 ≤ (h.1 8 i).toInt ∧ (h.1 8 i).toInt ≤ 999) : Ct y_Ledger_lacking b_Ledger_lacking 5 (some .int) 0 0 [.ref 7, .int o, .int d] h (q_Ledger_lackingX_0 h P o oZ d dZ t tZ) := by
  refine ct_ow R_Ledger [some (.ref 7), some (.int o), some (.int d), none, none] rfl (by decide) rfl (Nat.le_of_ble_eq_true rfl) ?_
  have f0 : fr [] h h := fr_rf
  have g1 : 0 ≤ tZ ∧ tZ ≤ 8 := inv_at hI tE tK.symm rfl
  obtain ⟨pv, pvZ, pvE, pvK⟩ : ∃ (y : Int32) (Y : Int), y.toInt = Y ∧ h.1 8 (oZ).toNat = y := ⟨_, _, rfl, rfl⟩
  have hp9 := hy3 oZ.toNat (by (first | decide +kernel | omega))
  rw [pvK, pvE] at hp9
  refine V_aload_n 0 d_Ledger_lacking_0 rfl rfl ?_
  refine V_getR fa_Ledger_9 sk_7 rfl d_Ledger_lacking_1 ?_
  refine V_iload_n 1 d_Ledger_lacking_4 rfl rfl ?_
  refine N_ialdK sk_8 oE (by (first | decide +kernel | omega)) d_Ledger_lacking_5 pvK ?_
  refine N_ineg d_Ledger_lacking_6 (fun z3 z3Z z3E z3e => ?_)
  have g4 := ti_neg9 pvE hp9 z3e z3E
  refine V_istore_n 3 [some (.ref 7), some (.int o), some (.int d), some (.int z3), none] d_Ledger_lacking_7 rfl (by decide) rfl rfl ?_
  refine V_iconst 0 d_Ledger_lacking_8 (by decide) ?_
  refine V_istore 4 [some (.ref 7), some (.int o), some (.int d), some (.int z3), some (.int 0)] d_Ledger_lacking_9 (by decide) rfl rfl ?_
  have L5 : ∀ (nn : Nat) (v7 : Int32) (v7Z : Int) (v8 : Int32) (v8Z : Int), v7.toInt = v7Z → v8.toInt = v8Z → 0 ≤ v8Z ∧ v8Z ≤ tZ → v7Z = LC h P oZ (v8Z).toNat → -999 - 99 * v8Z ≤ v7Z ∧ v7Z ≤ 99 * v8Z → 8 - v8Z < (nn : Int) → V R_Ledger b_Ledger_lacking 5 (some .int) 0 0 (q_Ledger_lackingX_0 h P o oZ d dZ t tZ) h 11 [some (.ref 7), some (.int o), some (.int d), some (.int v7), some (.int v8)] [] := by
    intro nn
    induction nn with
    | zero => intro v7 v7Z v8 v8Z v7E v8E q9 q10 q11 hm12; exact absurd hm12 (by (first | decide +kernel | omega))
    | succ nn ihL5 =>
      intro v7 v7Z v8 v8Z v7E v8E q9 q10 q11 hm12
      refine V_iload d_Ledger_lacking_11 rfl ?_
      refine V_aload_n 0 d_Ledger_lacking_13 rfl rfl ?_
      refine N_getK fa_Ledger_30 sk_7 rfl d_Ledger_lacking_14 tK ?_
      refine V_icmp_ge 82 v8E tE d_Ledger_lacking_17 (by decide) (fun c13 => ?_) (fun c13 => ?_)
      ·
        refine V_iload_n 3 d_Ledger_lacking_82 rfl rfl ?_
        exact V_iret rfl d_Ledger_lacking_83 ⟨v7, rfl, ⟨rfl, ⟨by rw [v7E, show tZ.toNat = (v8Z).toNat by (first | decide +kernel | omega)]; assumption, by rw [v7E]; omega, by rw [v7E]; omega⟩⟩⟩
      ·
        have hd9 := hy2 (v8Z).toNat (by (first | decide +kernel | omega)) (by rw [tK, tE]; omega)
        have hL9 : v7Z = LC h P oZ (v8Z).toNat := by assumption
        refine V_aload_n 0 d_Ledger_lacking_20 rfl rfl ?_
        refine V_getR fa_Ledger_15 sk_7 rfl d_Ledger_lacking_21 ?_
        refine V_iload d_Ledger_lacking_24 rfl ?_
        refine N_iald sk_9 v8E (by (first | decide +kernel | omega)) d_Ledger_lacking_26 (fun z14 z14Z z14E z14e => ?_)
        have a15 : z14Z = (h.1 9 (v8Z).toNat).toInt := by rw [← z14E, z14e]
        refine V_iload_n 1 d_Ledger_lacking_27 rfl rfl ?_
        refine V_icmp_ne 41 z14E oE d_Ledger_lacking_28 (by decide) (fun c16 => ?_) (fun c16 => ?_)
        ·
          refine V_aload_n 0 d_Ledger_lacking_41 rfl rfl ?_
          refine V_getR fa_Ledger_18 sk_7 rfl d_Ledger_lacking_42 ?_
          refine V_iload d_Ledger_lacking_45 rfl ?_
          refine N_iald sk_10 v8E (by (first | decide +kernel | omega)) d_Ledger_lacking_47 (fun z17 z17Z z17E z17e => ?_)
          have b18 : z17Z = (h.1 10 (v8Z).toNat).toInt := by rw [← z17E, z17e]
          refine V_iload_n 1 d_Ledger_lacking_48 rfl rfl ?_
          refine V_icmp_ne 76 z17E oE d_Ledger_lacking_49 (by decide) (fun c19 => ?_) (fun c19 => ?_)
          ·
            have hl9 : v7Z = LC h P oZ (v8Z + 1).toNat := lk9_s (A := (h.1 9 (v8Z).toNat).toInt) (B := (h.1 10 (v8Z).toNat).toInt) (V := (h.1 11 (v8Z).toNat).toInt) (X := v7Z) (by (first | decide +kernel | omega)) rfl rfl rfl hL9 (Or.inr ⟨by (first | decide +kernel | omega), by (first | decide +kernel | omega)⟩) (Or.inr ⟨fun q => absurd q.1 (by (first | decide +kernel | omega)), rfl⟩)
            obtain ⟨z20, z20E, z20e⟩ : ∃ y : Int32, y.toInt = v8Z + 1 ∧ y = v8 + Int32.ofInt 1 := ⟨_, ti_add v8E (by decide) (by (first | decide +kernel | omega)), rfl⟩
            refine V_iinc 4 [some (.ref 7), some (.int o), some (.int d), some (.int v7), some (.int z20)] d_Ledger_lacking_76 rfl z20e.symm (by decide) rfl rfl ?_
            refine V_goto 11 d_Ledger_lacking_79 (by decide) ?_
            exact ihL5 v7 v7Z z20 ((v8Z + 1)) v7E z20E (by (first | decide +kernel | omega)) hl9 (by (first | decide +kernel | omega)) (by (first | decide +kernel | omega))
          ·
            refine V_iload_n 2 d_Ledger_lacking_52 rfl rfl ?_
            refine V_aload_n 0 d_Ledger_lacking_53 rfl rfl ?_
            refine V_getR fa_Ledger_15 sk_7 rfl d_Ledger_lacking_54 ?_
            refine V_iload d_Ledger_lacking_57 rfl ?_
            refine N_iald sk_9 v8E (by (first | decide +kernel | omega)) d_Ledger_lacking_59 (fun z21 z21Z z21E z21e => ?_)
            have a22 : z21Z = (h.1 9 (v8Z).toNat).toInt := by rw [← z21E, z21e]
            refine N_ishr d_Ledger_lacking_60 (fun z23 z23Z z23E z23e => ?_)
            refine V_iconst 1 d_Ledger_lacking_61 (by decide) ?_
            refine N_iand d_Ledger_lacking_62 (fun z24 z24Z z24E z24e => ?_)
            have hbit := BP_sh hy1 z21E (by (first | decide +kernel | omega)) z23e z24e z24E
            rw [a22] at hbit
            refine V_if_ne 76 z24E d_Ledger_lacking_63 (by decide) (fun c25 => ?_) (fun c25 => ?_)
            ·
              have hl9 : v7Z = LC h P oZ (v8Z + 1).toNat := lk9_s (A := (h.1 9 (v8Z).toNat).toInt) (B := (h.1 10 (v8Z).toNat).toInt) (V := (h.1 11 (v8Z).toNat).toInt) (X := v7Z) (by (first | decide +kernel | omega)) rfl rfl rfl hL9 (Or.inr ⟨by (first | decide +kernel | omega), by (first | decide +kernel | omega)⟩) (Or.inr ⟨fun q => q.2 (hbit.resolve_right (fun q => absurd q.1 (by (first | decide +kernel | omega)))).2, rfl⟩)
              obtain ⟨z26, z26E, z26e⟩ : ∃ y : Int32, y.toInt = v8Z + 1 ∧ y = v8 + Int32.ofInt 1 := ⟨_, ti_add v8E (by decide) (by (first | decide +kernel | omega)), rfl⟩
              refine V_iinc 4 [some (.ref 7), some (.int o), some (.int d), some (.int v7), some (.int z26)] d_Ledger_lacking_76 rfl z26e.symm (by decide) rfl rfl ?_
              refine V_goto 11 d_Ledger_lacking_79 (by decide) ?_
              exact ihL5 v7 v7Z z26 ((v8Z + 1)) v7E z26E (by (first | decide +kernel | omega)) hl9 (by (first | decide +kernel | omega)) (by (first | decide +kernel | omega))
            ·
              refine V_iload_n 3 d_Ledger_lacking_66 rfl rfl ?_
              refine V_aload_n 0 d_Ledger_lacking_67 rfl rfl ?_
              refine V_getR fa_Ledger_21 sk_7 rfl d_Ledger_lacking_68 ?_
              refine V_iload d_Ledger_lacking_71 rfl ?_
              refine N_iald sk_11 v8E (by (first | decide +kernel | omega)) d_Ledger_lacking_73 (fun z27 z27Z z27E z27e => ?_)
              have v28 : z27Z = (h.1 11 (v8Z).toNat).toInt := by rw [← z27E, z27e]
              refine V_isub v7E z27E (by (first | decide +kernel | omega)) d_Ledger_lacking_74 (fun z29 z29e z29E => ?_)
              refine V_istore_n 3 [some (.ref 7), some (.int o), some (.int d), some (.int z29), some (.int v8)] d_Ledger_lacking_75 rfl (by decide) rfl rfl ?_
              have hl9 : (v7Z - z27Z) = LC h P oZ (v8Z + 1).toNat := lk9_s (A := (h.1 9 (v8Z).toNat).toInt) (B := (h.1 10 (v8Z).toNat).toInt) (V := (h.1 11 (v8Z).toNat).toInt) (X := v7Z) (by (first | decide +kernel | omega)) rfl rfl rfl hL9 (Or.inr ⟨by (first | decide +kernel | omega), by (first | decide +kernel | omega)⟩) (Or.inl ⟨⟨by (first | decide +kernel | omega), (hbit.resolve_left (fun q => absurd q.1 (by (first | decide +kernel | omega)))).2⟩, by (first | decide +kernel | omega)⟩)
              obtain ⟨z30, z30E, z30e⟩ : ∃ y : Int32, y.toInt = v8Z + 1 ∧ y = v8 + Int32.ofInt 1 := ⟨_, ti_add v8E (by decide) (by (first | decide +kernel | omega)), rfl⟩
              refine V_iinc 4 [some (.ref 7), some (.int o), some (.int d), some (.int z29), some (.int z30)] d_Ledger_lacking_76 rfl z30e.symm (by decide) rfl rfl ?_
              refine V_goto 11 d_Ledger_lacking_79 (by decide) ?_
              exact ihL5 z29 ((v7Z - z27Z)) z30 ((v8Z + 1)) z29E z30E (by (first | decide +kernel | omega)) hl9 (by (first | decide +kernel | omega)) (by (first | decide +kernel | omega))
        ·
          refine V_iload_n 3 d_Ledger_lacking_31 rfl rfl ?_
          refine V_aload_n 0 d_Ledger_lacking_32 rfl rfl ?_
          refine V_getR fa_Ledger_21 sk_7 rfl d_Ledger_lacking_33 ?_
          refine V_iload d_Ledger_lacking_36 rfl ?_
          refine N_iald sk_11 v8E (by (first | decide +kernel | omega)) d_Ledger_lacking_38 (fun z31 z31Z z31E z31e => ?_)
          have v32 : z31Z = (h.1 11 (v8Z).toNat).toInt := by rw [← z31E, z31e]
          refine V_iadd v7E z31E (by (first | decide +kernel | omega)) d_Ledger_lacking_39 (fun z33 z33e z33E => ?_)
          refine V_istore_n 3 [some (.ref 7), some (.int o), some (.int d), some (.int z33), some (.int v8)] d_Ledger_lacking_40 rfl (by decide) rfl rfl ?_
          refine V_aload_n 0 d_Ledger_lacking_41 rfl rfl ?_
          refine V_getR fa_Ledger_18 sk_7 rfl d_Ledger_lacking_42 ?_
          refine V_iload d_Ledger_lacking_45 rfl ?_
          refine N_iald sk_10 v8E (by (first | decide +kernel | omega)) d_Ledger_lacking_47 (fun z34 z34Z z34E z34e => ?_)
          have b35 : z34Z = (h.1 10 (v8Z).toNat).toInt := by rw [← z34E, z34e]
          refine V_iload_n 1 d_Ledger_lacking_48 rfl rfl ?_
          refine V_icmp_ne 76 z34E oE d_Ledger_lacking_49 (by decide) (fun c36 => ?_) (fun c36 => ?_)
          ·
            have hl9 : (v7Z + z31Z) = LC h P oZ (v8Z + 1).toNat := lk9_s (A := (h.1 9 (v8Z).toNat).toInt) (B := (h.1 10 (v8Z).toNat).toInt) (V := (h.1 11 (v8Z).toNat).toInt) (X := (v7Z + z31Z)) (by (first | decide +kernel | omega)) rfl rfl rfl hL9 (Or.inl ⟨by (first | decide +kernel | omega), by (first | decide +kernel | omega)⟩) (Or.inr ⟨fun q => absurd q.1 (by (first | decide +kernel | omega)), rfl⟩)
            obtain ⟨z37, z37E, z37e⟩ : ∃ y : Int32, y.toInt = v8Z + 1 ∧ y = v8 + Int32.ofInt 1 := ⟨_, ti_add v8E (by decide) (by (first | decide +kernel | omega)), rfl⟩
            refine V_iinc 4 [some (.ref 7), some (.int o), some (.int d), some (.int z33), some (.int z37)] d_Ledger_lacking_76 rfl z37e.symm (by decide) rfl rfl ?_
            refine V_goto 11 d_Ledger_lacking_79 (by decide) ?_
            exact ihL5 z33 ((v7Z + z31Z)) z37 ((v8Z + 1)) z33E z37E (by (first | decide +kernel | omega)) hl9 (by (first | decide +kernel | omega)) (by (first | decide +kernel | omega))
          ·
            refine V_iload_n 2 d_Ledger_lacking_52 rfl rfl ?_
            refine V_aload_n 0 d_Ledger_lacking_53 rfl rfl ?_
            refine V_getR fa_Ledger_15 sk_7 rfl d_Ledger_lacking_54 ?_
            refine V_iload d_Ledger_lacking_57 rfl ?_
            refine N_iald sk_9 v8E (by (first | decide +kernel | omega)) d_Ledger_lacking_59 (fun z38 z38Z z38E z38e => ?_)
            have a39 : z38Z = (h.1 9 (v8Z).toNat).toInt := by rw [← z38E, z38e]
            refine N_ishr d_Ledger_lacking_60 (fun z40 z40Z z40E z40e => ?_)
            refine V_iconst 1 d_Ledger_lacking_61 (by decide) ?_
            refine N_iand d_Ledger_lacking_62 (fun z41 z41Z z41E z41e => ?_)
            have hbit := BP_sh hy1 z38E (by (first | decide +kernel | omega)) z40e z41e z41E
            rw [a39] at hbit
            refine V_if_ne 76 z41E d_Ledger_lacking_63 (by decide) (fun c42 => ?_) (fun c42 => ?_)
            ·
              have hl9 : (v7Z + z31Z) = LC h P oZ (v8Z + 1).toNat := lk9_s (A := (h.1 9 (v8Z).toNat).toInt) (B := (h.1 10 (v8Z).toNat).toInt) (V := (h.1 11 (v8Z).toNat).toInt) (X := (v7Z + z31Z)) (by (first | decide +kernel | omega)) rfl rfl rfl hL9 (Or.inl ⟨by (first | decide +kernel | omega), by (first | decide +kernel | omega)⟩) (Or.inr ⟨fun q => q.2 (hbit.resolve_right (fun q => absurd q.1 (by (first | decide +kernel | omega)))).2, rfl⟩)
              obtain ⟨z43, z43E, z43e⟩ : ∃ y : Int32, y.toInt = v8Z + 1 ∧ y = v8 + Int32.ofInt 1 := ⟨_, ti_add v8E (by decide) (by (first | decide +kernel | omega)), rfl⟩
              refine V_iinc 4 [some (.ref 7), some (.int o), some (.int d), some (.int z33), some (.int z43)] d_Ledger_lacking_76 rfl z43e.symm (by decide) rfl rfl ?_
              refine V_goto 11 d_Ledger_lacking_79 (by decide) ?_
              exact ihL5 z33 ((v7Z + z31Z)) z43 ((v8Z + 1)) z33E z43E (by (first | decide +kernel | omega)) hl9 (by (first | decide +kernel | omega)) (by (first | decide +kernel | omega))
            ·
              refine V_iload_n 3 d_Ledger_lacking_66 rfl rfl ?_
              refine V_aload_n 0 d_Ledger_lacking_67 rfl rfl ?_
              refine V_getR fa_Ledger_21 sk_7 rfl d_Ledger_lacking_68 ?_
              refine V_iload d_Ledger_lacking_71 rfl ?_
              refine N_iald sk_11 v8E (by (first | decide +kernel | omega)) d_Ledger_lacking_73 (fun z44 z44Z z44E z44e => ?_)
              have v45 : z44Z = (h.1 11 (v8Z).toNat).toInt := by rw [← z44E, z44e]
              refine V_isub z33E z44E (by (first | decide +kernel | omega)) d_Ledger_lacking_74 (fun z46 z46e z46E => ?_)
              refine V_istore_n 3 [some (.ref 7), some (.int o), some (.int d), some (.int z46), some (.int v8)] d_Ledger_lacking_75 rfl (by decide) rfl rfl ?_
              have hl9 : ((v7Z + z31Z) - z44Z) = LC h P oZ (v8Z + 1).toNat := lk9_s (A := (h.1 9 (v8Z).toNat).toInt) (B := (h.1 10 (v8Z).toNat).toInt) (V := (h.1 11 (v8Z).toNat).toInt) (X := (v7Z + z31Z)) (by (first | decide +kernel | omega)) rfl rfl rfl hL9 (Or.inl ⟨by (first | decide +kernel | omega), by (first | decide +kernel | omega)⟩) (Or.inl ⟨⟨by (first | decide +kernel | omega), (hbit.resolve_left (fun q => absurd q.1 (by (first | decide +kernel | omega)))).2⟩, by (first | decide +kernel | omega)⟩)
              obtain ⟨z47, z47E, z47e⟩ : ∃ y : Int32, y.toInt = v8Z + 1 ∧ y = v8 + Int32.ofInt 1 := ⟨_, ti_add v8E (by decide) (by (first | decide +kernel | omega)), rfl⟩
              refine V_iinc 4 [some (.ref 7), some (.int o), some (.int d), some (.int z46), some (.int z47)] d_Ledger_lacking_76 rfl z47e.symm (by decide) rfl rfl ?_
              refine V_goto 11 d_Ledger_lacking_79 (by decide) ?_
              exact ihL5 z46 (((v7Z + z31Z) - z44Z)) z47 ((v8Z + 1)) z46E z47E (by (first | decide +kernel | omega)) hl9 (by (first | decide +kernel | omega)) (by (first | decide +kernel | omega))
  exact L5 (Int.toNat ((8 - 0 : Int) + 1)) z3 z3Z 0 0 z3E tc_0 (by (first | decide +kernel | omega)) (show _ = -(h.1 8 oZ.toNat).toInt from by rw [pvK, pvE]; omega) (by (first | decide +kernel | omega)) (by (first | decide +kernel | omega))
abbrev q_Ledger_failingAfterX_0 (h : Hp) (P : Nat → Prop) (d : Int32) (dZ : Int) (t : Int32) (tZ : Int) : Option Value → Hp → Prop := pInt (fun r h' => h = h' ∧ (BP r (fun j => j < 4 ∧ 0 < LC h P (j : Int) tZ.toNat)))
set_option maxRecDepth 100000 in
theorem c_Ledger_failingAfterX_0 (h : Hp) (P : Nat → Prop) (hI : Inv h) (d : Int32) (dZ : Int) (dE : d.toInt = dZ) (t : Int32) (tZ : Int) (tE : t.toInt = tZ) (tK : h.1 7 4 = t) (hy0 : BP d P) (hy1 : ∀ i : Nat, i < 8 → (i : Int) < (h.1 7 4).toInt → (0 ≤ (h.1 9 i).toInt ∧ (h.1 9 i).toInt ≤ 3) ∧ 0 ≤ (h.1 11 i).toInt ∧ (h.1 11 i).toInt ≤ 99) (hy2 : ∀ i : Nat, i < 4 → 0 ≤ (h.1 8 i).toInt ∧ (h.1 8 i).toInt ≤ 999) : Ct y_Ledger_failingAfter b_Ledger_failingAfter 4 (some .int) 1 24 [.ref 7, .int d] h (q_Ledger_failingAfterX_0 h P d dZ t tZ) := by
  refine ct_ow R_Ledger [some (.ref 7), some (.int d), none, none] rfl (by decide) rfl (Nat.le_of_ble_eq_true rfl) ?_
  have f0 : fr [] h h := fr_rf
  have g1 : 0 ≤ tZ ∧ tZ ≤ 8 := inv_at hI tE tK.symm rfl
  refine V_iconst 0 d_Ledger_failingAfter_0 (by decide) ?_
  refine V_istore_n 2 [some (.ref 7), some (.int d), some (.int 0), none] d_Ledger_failingAfter_1 rfl (by decide) rfl rfl ?_
  refine V_iconst 0 d_Ledger_failingAfter_2 (by decide) ?_
  refine V_istore_n 3 [some (.ref 7), some (.int d), some (.int 0), some (.int 0)] d_Ledger_failingAfter_3 rfl (by decide) rfl rfl ?_
  have L2 : ∀ (nn : Nat) (v4 : Int32) (v4Z : Int) (v5 : Int32) (v5Z : Int), v4.toInt = v4Z → v5.toInt = v5Z → 0 ≤ v5Z ∧ v5Z ≤ 4 → BP v4 (fun j => j < (v5Z).toNat ∧ 0 < LC h P (j : Int) tZ.toNat) → 4 - v5Z < (nn : Int) → V R_Ledger b_Ledger_failingAfter 4 (some .int) 1 24 (q_Ledger_failingAfterX_0 h P d dZ t tZ) h 4 [some (.ref 7), some (.int d), some (.int v4), some (.int v5)] [] := by
    intro nn
    induction nn with
    | zero => intro v4 v4Z v5 v5Z v4E v5E q6 q7 hm8; exact absurd hm8 (by (first | decide +kernel | omega))
    | succ nn ihL2 =>
      intro v4 v4Z v5 v5Z v4E v5E q6 q7 hm8
      refine V_iload_n 3 d_Ledger_failingAfter_4 rfl rfl ?_
      refine V_iconst 4 d_Ledger_failingAfter_5 (by decide) ?_
      refine V_icmp_ge 30 v5E tc_4 d_Ledger_failingAfter_6 (by decide) (fun c9 => ?_) (fun c9 => ?_)
      ·
        refine V_iload_n 2 d_Ledger_failingAfter_30 rfl rfl ?_
        exact V_iret rfl d_Ledger_failingAfter_31 ⟨v4, rfl, ⟨rfl, (by rw [show (4 : Nat) = (v5Z).toNat by (first | decide +kernel | omega)]; assumption)⟩⟩
      ·
        refine V_aload_n 0 d_Ledger_failingAfter_9 rfl rfl ?_
        refine V_iload_n 3 d_Ledger_failingAfter_10 rfl rfl ?_
        refine V_iload_n 1 d_Ledger_failingAfter_11 rfl rfl ?_
        refine N_callVI [.int v5, .int d] [] cv_Ledger_40 sk_7 rfl d_Ledger_failingAfter_12 rfl (Nat.le_of_ble_eq_true rfl) (by decide) (by decide) (c_Ledger_lackingX_0 h P hI v5 v5Z v5E d dZ dE t tZ tE tK (by (first | decide +kernel | omega)) hy0 hy1 hy2) (fun z10 h11 z10Z z10E p12 => ?_)
        obtain ⟨eh11, p12⟩ := p12
        subst eh11
        have hlk : z10Z = LC h P v5Z tZ.toNat := z10E.symm.trans p12.1
        refine V_if_le 24 z10E d_Ledger_failingAfter_15 (by decide) (fun c13 => ?_) (fun c13 => ?_)
        ·
          obtain ⟨z14, z14E, z14e⟩ : ∃ y : Int32, y.toInt = v5Z + 1 ∧ y = v5 + Int32.ofInt 1 := ⟨_, ti_add v5E (by decide) (by (first | decide +kernel | omega)), rfl⟩
          refine V_iinc 3 [some (.ref 7), some (.int d), some (.int v4), some (.int z14)] d_Ledger_failingAfter_24 rfl z14e.symm (by decide) rfl rfl ?_
          refine V_goto 4 d_Ledger_failingAfter_27 (by decide) ?_
          exact ihL2 v4 v4Z z14 ((v5Z + 1)) v4E z14E (by (first | decide +kernel | omega)) (BP_skip (P := fun j => 0 < LC h P (j : Int) tZ.toNat) (by assumption) (by (first | decide +kernel | omega)) (by show ¬ 0 < LC h P (((v5Z).toNat : Nat) : Int) tZ.toNat; rw [show (((v5Z).toNat : Nat) : Int) = v5Z by (first | decide +kernel | omega)]; omega)) (by (first | decide +kernel | omega))
        ·
          refine V_iload_n 2 d_Ledger_failingAfter_18 rfl rfl ?_
          refine V_iconst 1 d_Ledger_failingAfter_19 (by decide) ?_
          refine V_iload_n 3 d_Ledger_failingAfter_20 rfl rfl ?_
          refine N_ishl d_Ledger_failingAfter_21 (fun z15 z15Z z15E z15e => ?_)
          refine N_ior d_Ledger_failingAfter_22 (fun z16 z16Z z16E z16e => ?_)
          refine V_istore_n 2 [some (.ref 7), some (.int d), some (.int z16), some (.int v5)] d_Ledger_failingAfter_23 rfl (by decide) rfl rfl ?_
          obtain ⟨z17, z17E, z17e⟩ : ∃ y : Int32, y.toInt = v5Z + 1 ∧ y = v5 + Int32.ofInt 1 := ⟨_, ti_add v5E (by decide) (by (first | decide +kernel | omega)), rfl⟩
          refine V_iinc 3 [some (.ref 7), some (.int d), some (.int z16), some (.int z17)] d_Ledger_failingAfter_24 rfl z17e.symm (by decide) rfl rfl ?_
          refine V_goto 4 d_Ledger_failingAfter_27 (by decide) ?_
          exact ihL2 z16 z16Z z17 ((v5Z + 1)) z16E z17E (by (first | decide +kernel | omega)) (BP_add (P := fun j => 0 < LC h P (j : Int) tZ.toNat) (by assumption) v5E (by (first | decide +kernel | omega)) (by show 0 < LC h P (((v5Z).toNat : Nat) : Int) tZ.toNat; rw [show (((v5Z).toNat : Nat) : Int) = v5Z by (first | decide +kernel | omega)]; omega) z15e z16e) (by (first | decide +kernel | omega))
  exact L2 (Int.toNat ((4 - 0 : Int) + 1)) 0 0 0 0 tc_0 tc_0 (by (first | decide +kernel | omega)) BP_none (by (first | decide +kernel | omega))
abbrev q_Rod_crashX (h : Hp) (a : Int32) (aZ : Int) (t : Int32) (tZ : Int) : Option Value → Hp → Prop := pInt (fun r h' => h = h' ∧ (CRa (SR (fun P j => 0 < LC h P (j : Int) tZ.toNat)) aZ r))
set_option maxRecDepth 100000 in
theorem c_Rod_crashX (h : Hp) (hI : Inv h) (a : Int32) (aZ : Int) (aE : a.toInt = aZ) (t : Int32) (tZ : Int) (tE : t.toInt = tZ) (tK : h.1 7 4 = t) (hy0 : ∀ i : Nat, i < 8 → (i : Int) < (h.1 7 4).toInt → (0 ≤ (h.1 9 i).toInt ∧ (h.1 9 i).toInt ≤ 3) ∧ 0 ≤ (h.1 11 i).toInt ∧ (h.1 11 i).toInt ≤ 99) (hy1 : ∀ i : Nat, i < 4 → 0 ≤ (h.1 8 i).toInt ∧ (h.1 8 i).toInt ≤ 999) : Ct y_Rod_crash b_Rod_crash 7 (some .int) 2 47 [.ref 85, .int a] h (q_Rod_crashX h a aZ t tZ) := by
  refine ct_ow R_Rod [some (.ref 85), some (.int a), none, none, none, none, none] rfl (by decide) rfl (Nat.le_of_ble_eq_true rfl) ?_
  have f0 : fr [] h h := fr_rf
  have g1 : 0 ≤ tZ ∧ tZ ≤ 8 := inv_at hI tE tK.symm rfl
  have aB := And.intro (ti_lo a) (ti_hi a)
  rw [aE] at aB
  refine V_iload_n 1 d_Rod_crash_0 rfl rfl ?_
  refine V_if_eq 25 aE d_Rod_crash_1 (by decide) (fun c2 => ?_) (fun c2 => ?_)
  ·
    refine V_iconst 0 d_Rod_crash_25 (by decide) ?_
    refine V_istore_n 2 [some (.ref 85), some (.int a), some (.int 0), none, none, none, none] d_Rod_crash_26 rfl (by decide) rfl rfl ?_
    refine V_iconst 0 d_Rod_crash_27 (by decide) ?_
    refine V_istore_n 3 [some (.ref 85), some (.int a), some (.int 0), some (.int 0), none, none, none] d_Rod_crash_28 rfl (by decide) rfl rfl ?_
    refine V_bipush (-4) d_Rod_crash_29 (by decide) ?_
    refine V_istore 4 [some (.ref 85), some (.int a), some (.int 0), some (.int 0), some (.int (-4)), none, none] d_Rod_crash_31 (by decide) rfl rfl ?_
    refine V_iconst 1 d_Rod_crash_33 (by decide) ?_
    refine V_istore 5 [some (.ref 85), some (.int a), some (.int 0), some (.int 0), some (.int (-4)), some (.int 1), none] d_Rod_crash_34 (by decide) rfl rfl ?_
    have L3 : ∀ (nn : Nat) (v5 : Int32) (v5Z : Int) (v6 : Int32) (v6Z : Int) (v7 : Int32) (v7Z : Int) (v8 : Int32) (v8Z : Int), v5.toInt = v5Z → v6.toInt = v6Z → v7.toInt = v7Z → v8.toInt = v8Z → 1 ≤ v8Z ∧ v8Z ≤ 5 → BP v5 ((SR (fun P j => 0 < LC h P (j : Int) tZ.toNat)) (v8Z - 1).toNat) → RDs (SR (fun P j => 0 < LC h P (j : Int) tZ.toNat)) (v8Z - 1).toNat v6Z → (aZ < 10 ∨ HS (SR (fun P j => 0 < LC h P (j : Int) tZ.toNat)) (aZ - 10).toNat (v8Z - 1).toNat v7Z (-4)) → 5 - v8Z < (nn : Int) → V R_Rod b_Rod_crash 7 (some .int) 2 47 (q_Rod_crashX h a aZ t tZ) h 36 [some (.ref 85), some (.int a), some (.int v5), some (.int v6), some (.int v7), some (.int v8), none] [] := by
      intro nn
      induction nn with
      | zero => intro v5 v5Z v6 v6Z v7 v7Z v8 v8Z v5E v6E v7E v8E q9 q10 q11 q12 hm13; exact absurd hm13 (by (first | decide +kernel | omega))
      | succ nn ihL3 =>
        intro v5 v5Z v6 v6Z v7 v7Z v8 v8Z v5E v6E v7E v8E q9 q10 q11 q12 hm13
        refine V_iload d_Rod_crash_36 rfl ?_
        refine V_iconst 4 d_Rod_crash_38 (by decide) ?_
        refine V_icmp_gt 100 v8E tc_4 d_Rod_crash_39 (by decide) (fun c14 => ?_) (fun c14 => ?_)
        ·
          have e4 : (v8Z - 1).toNat = 4 := by (first | decide +kernel | omega)
          have hRE : RDs (SR (fun P j => 0 < LC h P (j : Int) tZ.toNat)) 4 v6Z := by rw [← e4]; assumption
          have hSE : BP v5 ((SR (fun P j => 0 < LC h P (j : Int) tZ.toNat)) 4) := by rw [← e4]; assumption
          have hHE : aZ < 10 ∨ HS (SR (fun P j => 0 < LC h P (j : Int) tZ.toNat)) (aZ - 10).toNat 4 v7Z (-4) := by rw [← e4]; assumption
          refine V_iload_n 1 d_Rod_crash_100 rfl rfl ?_
          refine V_bipush 10 d_Rod_crash_101 (by decide) ?_
          refine V_icmp_lt 109 aE tc_10 d_Rod_crash_103 (by decide) (fun c15 => ?_) (fun c15 => ?_)
          ·
            refine V_iload_n 1 d_Rod_crash_109 rfl rfl ?_
            refine V_if_ne 117 aE d_Rod_crash_110 (by decide) (fun c16 => ?_) (fun c16 => ?_)
            ·
              refine V_iload_n 3 d_Rod_crash_117 rfl rfl ?_
              exact V_iret rfl d_Rod_crash_118 ⟨v6, rfl, ⟨rfl, (Or.inl ⟨by (first | decide +kernel | omega), 4, ⟨v6Z, hRE, fun q => v6E⟩, RDs_5 hRE, fun q => (by (first | decide +kernel | omega)), fun q => (by (first | decide +kernel | omega))⟩)⟩⟩
            ·
              refine V_iload_n 2 d_Rod_crash_113 rfl rfl ?_
              refine V_goto 118 d_Rod_crash_114 (by decide) ?_
              exact V_iret rfl d_Rod_crash_118 ⟨v5, rfl, ⟨rfl, (Or.inl ⟨by (first | decide +kernel | omega), 4, ⟨v6Z, hRE, fun q => (by (first | decide +kernel | omega))⟩, RDs_5 hRE, fun q => hSE, fun q => (by (first | decide +kernel | omega))⟩)⟩⟩
          ·
            refine V_iload d_Rod_crash_106 rfl ?_
            exact V_iret rfl d_Rod_crash_108 ⟨v7, rfl, ⟨rfl, (Or.inl ⟨by (first | decide +kernel | omega), 4, ⟨v6Z, hRE, fun q => (by (first | decide +kernel | omega))⟩, RDs_5 hRE, fun q => (by (first | decide +kernel | omega)), fun q => (by rw [v7E]; exact hHE.resolve_left (by (first | decide +kernel | omega)))⟩)⟩⟩
        ·
          have hS9 : BP v5 ((SR (fun P j => 0 < LC h P (j : Int) tZ.toNat)) (v8Z - 1).toNat) := by assumption
          have hR9 : RDs (SR (fun P j => 0 < LC h P (j : Int) tZ.toNat)) (v8Z - 1).toNat v6Z := by assumption
          have hH9 : aZ < 10 ∨ HS (SR (fun P j => 0 < LC h P (j : Int) tZ.toNat)) (aZ - 10).toNat (v8Z - 1).toNat v7Z (-4) := by assumption
          refine V_aload_n 0 d_Rod_crash_42 rfl rfl ?_
          refine V_getR fa_Rod_12 sk_85 rfl d_Rod_crash_43 ?_
          refine V_getR fa_Rod_115 sk_0 rfl d_Rod_crash_46 ?_
          refine V_iload_n 2 d_Rod_crash_49 rfl rfl ?_
          refine N_callVI [.int v5] [] cv_Rod_271 sk_7 rfl d_Rod_crash_50 rfl (Nat.le_of_ble_eq_true rfl) (by decide) (by decide) (c_Ledger_failingAfterX_0 h ((SR (fun P j => 0 < LC h P (j : Int) tZ.toNat)) (v8Z - 1).toNat) hI v5 v5Z v5E t tZ tE tK hS9 hy0 hy1) (fun z17 h18 z17Z z17E p19 => ?_)
          obtain ⟨eh18, p19⟩ := p19
          subst eh18
          refine V_iload_n 2 d_Rod_crash_53 rfl rfl ?_
          refine V_iconst (-1) d_Rod_crash_54 (by decide) ?_
          refine N_ixor d_Rod_crash_55 (fun z20 z20Z z20E z20e => ?_)
          refine N_iand d_Rod_crash_56 (fun z21 z21Z z21E z21e => ?_)
          have hfl := BP_and p19 (BP_not hS9)
          rw [← z20e, ← z21e] at hfl
          refine V_istore 6 [some (.ref 85), some (.int a), some (.int v5), some (.int v6), some (.int v7), some (.int v8), some (.int z21)] d_Rod_crash_57 (by decide) rfl rfl ?_
          refine V_iload d_Rod_crash_59 rfl ?_
          refine V_if_eq 94 z21E d_Rod_crash_61 (by decide) (fun c22 => ?_) (fun c22 => ?_)
          ·
            have hst : (SR (fun P j => 0 < LC h P (j : Int) tZ.toNat)) ((v8Z - 1).toNat + 1) = (SR (fun P j => 0 < LC h P (j : Int) tZ.toNat)) (v8Z - 1).toNat := SR_st (fun j q => q.elim id (fun w => Classical.byContradiction (fun n => BP_z hfl z21E (by (first | decide +kernel | omega)) j ⟨w, by have := w.1; omega, n⟩)))
            obtain ⟨z23, z23E, z23e⟩ : ∃ y : Int32, y.toInt = v8Z + 1 ∧ y = v8 + Int32.ofInt 1 := ⟨_, ti_add v8E (by decide) (by (first | decide +kernel | omega)), rfl⟩
            refine V_iinc 5 [some (.ref 85), some (.int a), some (.int v5), some (.int v6), some (.int v7), some (.int z23), some (.int z21)] d_Rod_crash_94 rfl z23e.symm (by decide) rfl rfl ?_
            refine V_goto 36 d_Rod_crash_97 (by decide) ?_
            refine V_drop 6 [some (.ref 85), some (.int a), some (.int v5), some (.int v6), some (.int v7), some (.int z23), none] rfl ?_
            exact ihL3 v5 v5Z v6 v6Z v7 v7Z z23 ((v8Z + 1)) v5E v6E v7E z23E (by (first | decide +kernel | omega)) (by rw [show (v8Z + 1 - 1).toNat = (v8Z - 1).toNat + 1 by (first | decide +kernel | omega)]; rw [hst]; exact hS9) (by rw [show (v8Z + 1 - 1).toNat = (v8Z - 1).toNat + 1 by (first | decide +kernel | omega)]; exact RDs_n hR9 hst) (by rw [show (v8Z + 1 - 1).toNat = (v8Z - 1).toNat + 1 by (first | decide +kernel | omega)]; exact hH9.imp id (fun q => HS_n q (fun w => by rw [hst] at w; exact w))) (by (first | decide +kernel | omega))
          ·
            have hg9 : ∃ j : Nat, (SR (fun P j => 0 < LC h P (j : Int) tZ.toNat)) ((v8Z - 1).toNat + 1) j ∧ ¬ (SR (fun P j => 0 < LC h P (j : Int) tZ.toNat)) (v8Z - 1).toNat j := (BP_nz hfl z21E (by (first | decide +kernel | omega))).elim (fun j q => ⟨j, Or.inr q.1, q.2.2⟩)
            refine V_iload d_Rod_crash_64 rfl ?_
            refine V_istore_n 3 [some (.ref 85), some (.int a), some (.int v5), some (.int v8), some (.int v7), some (.int v8), some (.int z21)] d_Rod_crash_66 rfl (by decide) rfl rfl ?_
            refine V_iload_n 2 d_Rod_crash_67 rfl rfl ?_
            refine V_iload d_Rod_crash_68 rfl ?_
            refine N_ior d_Rod_crash_70 (fun z24 z24Z z24E z24e => ?_)
            have hS8 := BP_or hS9 hfl
            rw [← z24e] at hS8
            have hS7 : BP z24 ((SR (fun P j => 0 < LC h P (j : Int) tZ.toNat)) ((v8Z - 1).toNat + 1)) := BP_cg hS8 (fun j => ⟨fun q => q.elim Or.inl (fun w => Or.inr w.1), fun q => q.elim Or.inl (fun w => Classical.byCases Or.inl (fun n => Or.inr ⟨w, by have := w.1; omega, n⟩))⟩)
            refine V_istore_n 2 [some (.ref 85), some (.int a), some (.int z24), some (.int v8), some (.int v7), some (.int v8), some (.int z21)] d_Rod_crash_71 rfl (by decide) rfl rfl ?_
            refine V_iload_n 1 d_Rod_crash_72 rfl rfl ?_
            refine V_bipush 10 d_Rod_crash_73 (by decide) ?_
            refine V_icmp_lt 94 aE tc_10 d_Rod_crash_75 (by decide) (fun c25 => ?_) (fun c25 => ?_)
            ·
              obtain ⟨z26, z26E, z26e⟩ : ∃ y : Int32, y.toInt = v8Z + 1 ∧ y = v8 + Int32.ofInt 1 := ⟨_, ti_add v8E (by decide) (by (first | decide +kernel | omega)), rfl⟩
              refine V_iinc 5 [some (.ref 85), some (.int a), some (.int z24), some (.int v8), some (.int v7), some (.int z26), some (.int z21)] d_Rod_crash_94 rfl z26e.symm (by decide) rfl rfl ?_
              refine V_goto 36 d_Rod_crash_97 (by decide) ?_
              refine V_drop 6 [some (.ref 85), some (.int a), some (.int z24), some (.int v8), some (.int v7), some (.int z26), none] rfl ?_
              exact ihL3 z24 z24Z v8 v8Z v7 v7Z z26 ((v8Z + 1)) z24E v8E v7E z26E (by (first | decide +kernel | omega)) (by rw [show (v8Z + 1 - 1).toNat = (v8Z - 1).toNat + 1 by (first | decide +kernel | omega)]; exact hS7) (by rw [show (v8Z + 1 - 1).toNat = (v8Z - 1).toNat + 1 by (first | decide +kernel | omega)]; have q9 := RDs_g hR9 hg9; rw [show (((v8Z - 1).toNat : Nat) : Int) + 1 = v8Z by (first | decide +kernel | omega)] at q9; exact q9) (Or.inl (by (first | decide +kernel | omega))) (by (first | decide +kernel | omega))
            ·
              refine V_iload d_Rod_crash_78 rfl ?_
              refine V_iload_n 1 d_Rod_crash_80 rfl rfl ?_
              refine V_bipush 10 d_Rod_crash_81 (by decide) ?_
              refine V_isub aE tc_10 (by (first | decide +kernel | omega)) d_Rod_crash_83 (fun z27 z27e z27E => ?_)
              refine N_ishr d_Rod_crash_84 (fun z28 z28Z z28E z28e => ?_)
              refine V_iconst 1 d_Rod_crash_85 (by decide) ?_
              refine N_iand d_Rod_crash_86 (fun z29 z29Z z29E z29e => ?_)
              have hbit := BP_sh hfl z27E (by (first | decide +kernel | omega)) z28e z29e z29E
              refine V_if_eq 94 z29E d_Rod_crash_87 (by decide) (fun c30 => ?_) (fun c30 => ?_)
              ·
                obtain ⟨z31, z31E, z31e⟩ : ∃ y : Int32, y.toInt = v8Z + 1 ∧ y = v8 + Int32.ofInt 1 := ⟨_, ti_add v8E (by decide) (by (first | decide +kernel | omega)), rfl⟩
                refine V_iinc 5 [some (.ref 85), some (.int a), some (.int z24), some (.int v8), some (.int v7), some (.int z31), some (.int z21)] d_Rod_crash_94 rfl z31e.symm (by decide) rfl rfl ?_
                refine V_goto 36 d_Rod_crash_97 (by decide) ?_
                refine V_drop 6 [some (.ref 85), some (.int a), some (.int z24), some (.int v8), some (.int v7), some (.int z31), none] rfl ?_
                exact ihL3 z24 z24Z v8 v8Z v7 v7Z z31 ((v8Z + 1)) z24E v8E v7E z31E (by (first | decide +kernel | omega)) (by rw [show (v8Z + 1 - 1).toNat = (v8Z - 1).toNat + 1 by (first | decide +kernel | omega)]; exact hS7) (by rw [show (v8Z + 1 - 1).toNat = (v8Z - 1).toNat + 1 by (first | decide +kernel | omega)]; have q9 := RDs_g hR9 hg9; rw [show (((v8Z - 1).toNat : Nat) : Int) + 1 = v8Z by (first | decide +kernel | omega)] at q9; exact q9) (by rw [show (v8Z + 1 - 1).toNat = (v8Z - 1).toNat + 1 by (first | decide +kernel | omega)]; exact hH9.imp id (fun q => HS_n q (fun w => w.elim id (fun v => Classical.byContradiction (fun n => (hbit.resolve_left (fun q => absurd q.1 (by (first | decide +kernel | omega)))).2 ⟨v, by (first | decide +kernel | omega), n⟩))))) (by (first | decide +kernel | omega))
              ·
                refine V_iload d_Rod_crash_90 rfl ?_
                refine V_istore 4 [some (.ref 85), some (.int a), some (.int z24), some (.int v8), some (.int v8), some (.int v8), some (.int z21)] d_Rod_crash_92 (by decide) rfl rfl ?_
                obtain ⟨z32, z32E, z32e⟩ : ∃ y : Int32, y.toInt = v8Z + 1 ∧ y = v8 + Int32.ofInt 1 := ⟨_, ti_add v8E (by decide) (by (first | decide +kernel | omega)), rfl⟩
                refine V_iinc 5 [some (.ref 85), some (.int a), some (.int z24), some (.int v8), some (.int v8), some (.int z32), some (.int z21)] d_Rod_crash_94 rfl z32e.symm (by decide) rfl rfl ?_
                refine V_goto 36 d_Rod_crash_97 (by decide) ?_
                refine V_drop 6 [some (.ref 85), some (.int a), some (.int z24), some (.int v8), some (.int v8), some (.int z32), none] rfl ?_
                exact ihL3 z24 z24Z v8 v8Z v8 v8Z z32 ((v8Z + 1)) z24E v8E v8E z32E (by (first | decide +kernel | omega)) (by rw [show (v8Z + 1 - 1).toNat = (v8Z - 1).toNat + 1 by (first | decide +kernel | omega)]; exact hS7) (by rw [show (v8Z + 1 - 1).toNat = (v8Z - 1).toNat + 1 by (first | decide +kernel | omega)]; have q9 := RDs_g hR9 hg9; rw [show (((v8Z - 1).toNat : Nat) : Int) + 1 = v8Z by (first | decide +kernel | omega)] at q9; exact q9) (Or.inr (by rw [show (v8Z + 1 - 1).toNat = (v8Z - 1).toNat + 1 by (first | decide +kernel | omega)]; have q8 := (hbit.resolve_right (fun q => absurd q.1 (by (first | decide +kernel | omega)))).2; have q9 := HS_g (fl := (fun P j => 0 < LC h P (j : Int) tZ.toNat)) (none := -4) (Or.inr q8.1) q8.2.2; rw [show (((v8Z - 1).toNat : Nat) : Int) + 1 = v8Z by (first | decide +kernel | omega)] at q9; exact q9)) (by (first | decide +kernel | omega))
    exact L3 (Int.toNat ((5 - 1 : Int) + 1)) 0 0 0 0 (-4) ((-4)) 1 1 tc_0 tc_0 tc_m4 tc_1 (by (first | decide +kernel | omega)) (BP_cg BP_0 (fun j => Iff.rfl)) RDs_0 (Or.inr HS_0) (by (first | decide +kernel | omega))
  ·
    refine V_iload_n 1 d_Rod_crash_4 rfl rfl ?_
    refine V_iconst 1 d_Rod_crash_5 (by decide) ?_
    refine V_icmp_eq 25 aE tc_1 d_Rod_crash_6 (by decide) (fun c33 => ?_) (fun c33 => ?_)
    ·
      refine V_iconst 0 d_Rod_crash_25 (by decide) ?_
      refine V_istore_n 2 [some (.ref 85), some (.int a), some (.int 0), none, none, none, none] d_Rod_crash_26 rfl (by decide) rfl rfl ?_
      refine V_iconst 0 d_Rod_crash_27 (by decide) ?_
      refine V_istore_n 3 [some (.ref 85), some (.int a), some (.int 0), some (.int 0), none, none, none] d_Rod_crash_28 rfl (by decide) rfl rfl ?_
      refine V_bipush (-4) d_Rod_crash_29 (by decide) ?_
      refine V_istore 4 [some (.ref 85), some (.int a), some (.int 0), some (.int 0), some (.int (-4)), none, none] d_Rod_crash_31 (by decide) rfl rfl ?_
      refine V_iconst 1 d_Rod_crash_33 (by decide) ?_
      refine V_istore 5 [some (.ref 85), some (.int a), some (.int 0), some (.int 0), some (.int (-4)), some (.int 1), none] d_Rod_crash_34 (by decide) rfl rfl ?_
      have L34 : ∀ (nn : Nat) (v36 : Int32) (v36Z : Int) (v37 : Int32) (v37Z : Int) (v38 : Int32) (v38Z : Int) (v39 : Int32) (v39Z : Int), v36.toInt = v36Z → v37.toInt = v37Z → v38.toInt = v38Z → v39.toInt = v39Z → 1 ≤ v39Z ∧ v39Z ≤ 5 → BP v36 ((SR (fun P j => 0 < LC h P (j : Int) tZ.toNat)) (v39Z - 1).toNat) → RDs (SR (fun P j => 0 < LC h P (j : Int) tZ.toNat)) (v39Z - 1).toNat v37Z → (aZ < 10 ∨ HS (SR (fun P j => 0 < LC h P (j : Int) tZ.toNat)) (aZ - 10).toNat (v39Z - 1).toNat v38Z (-4)) → 5 - v39Z < (nn : Int) → V R_Rod b_Rod_crash 7 (some .int) 2 47 (q_Rod_crashX h a aZ t tZ) h 36 [some (.ref 85), some (.int a), some (.int v36), some (.int v37), some (.int v38), some (.int v39), none] [] := by
        intro nn
        induction nn with
        | zero => intro v36 v36Z v37 v37Z v38 v38Z v39 v39Z v36E v37E v38E v39E q40 q41 q42 q43 hm44; exact absurd hm44 (by (first | decide +kernel | omega))
        | succ nn ihL34 =>
          intro v36 v36Z v37 v37Z v38 v38Z v39 v39Z v36E v37E v38E v39E q40 q41 q42 q43 hm44
          refine V_iload d_Rod_crash_36 rfl ?_
          refine V_iconst 4 d_Rod_crash_38 (by decide) ?_
          refine V_icmp_gt 100 v39E tc_4 d_Rod_crash_39 (by decide) (fun c45 => ?_) (fun c45 => ?_)
          ·
            have e4 : (v39Z - 1).toNat = 4 := by (first | decide +kernel | omega)
            have hRE : RDs (SR (fun P j => 0 < LC h P (j : Int) tZ.toNat)) 4 v37Z := by rw [← e4]; assumption
            have hSE : BP v36 ((SR (fun P j => 0 < LC h P (j : Int) tZ.toNat)) 4) := by rw [← e4]; assumption
            have hHE : aZ < 10 ∨ HS (SR (fun P j => 0 < LC h P (j : Int) tZ.toNat)) (aZ - 10).toNat 4 v38Z (-4) := by rw [← e4]; assumption
            refine V_iload_n 1 d_Rod_crash_100 rfl rfl ?_
            refine V_bipush 10 d_Rod_crash_101 (by decide) ?_
            refine V_icmp_lt 109 aE tc_10 d_Rod_crash_103 (by decide) (fun c46 => ?_) (fun c46 => ?_)
            ·
              refine V_iload_n 1 d_Rod_crash_109 rfl rfl ?_
              refine V_if_ne 117 aE d_Rod_crash_110 (by decide) (fun c47 => ?_) (fun c47 => ?_)
              ·
                refine V_iload_n 3 d_Rod_crash_117 rfl rfl ?_
                exact V_iret rfl d_Rod_crash_118 ⟨v37, rfl, ⟨rfl, (Or.inl ⟨by (first | decide +kernel | omega), 4, ⟨v37Z, hRE, fun q => v37E⟩, RDs_5 hRE, fun q => (by (first | decide +kernel | omega)), fun q => (by (first | decide +kernel | omega))⟩)⟩⟩
              ·
                refine V_iload_n 2 d_Rod_crash_113 rfl rfl ?_
                refine V_goto 118 d_Rod_crash_114 (by decide) ?_
                exact V_iret rfl d_Rod_crash_118 ⟨v36, rfl, ⟨rfl, (Or.inl ⟨by (first | decide +kernel | omega), 4, ⟨v37Z, hRE, fun q => (by (first | decide +kernel | omega))⟩, RDs_5 hRE, fun q => hSE, fun q => (by (first | decide +kernel | omega))⟩)⟩⟩
            ·
              refine V_iload d_Rod_crash_106 rfl ?_
              exact V_iret rfl d_Rod_crash_108 ⟨v38, rfl, ⟨rfl, (Or.inl ⟨by (first | decide +kernel | omega), 4, ⟨v37Z, hRE, fun q => (by (first | decide +kernel | omega))⟩, RDs_5 hRE, fun q => (by (first | decide +kernel | omega)), fun q => (by rw [v38E]; exact hHE.resolve_left (by (first | decide +kernel | omega)))⟩)⟩⟩
          ·
            have hS9 : BP v36 ((SR (fun P j => 0 < LC h P (j : Int) tZ.toNat)) (v39Z - 1).toNat) := by assumption
            have hR9 : RDs (SR (fun P j => 0 < LC h P (j : Int) tZ.toNat)) (v39Z - 1).toNat v37Z := by assumption
            have hH9 : aZ < 10 ∨ HS (SR (fun P j => 0 < LC h P (j : Int) tZ.toNat)) (aZ - 10).toNat (v39Z - 1).toNat v38Z (-4) := by assumption
            refine V_aload_n 0 d_Rod_crash_42 rfl rfl ?_
            refine V_getR fa_Rod_12 sk_85 rfl d_Rod_crash_43 ?_
            refine V_getR fa_Rod_115 sk_0 rfl d_Rod_crash_46 ?_
            refine V_iload_n 2 d_Rod_crash_49 rfl rfl ?_
            refine N_callVI [.int v36] [] cv_Rod_271 sk_7 rfl d_Rod_crash_50 rfl (Nat.le_of_ble_eq_true rfl) (by decide) (by decide) (c_Ledger_failingAfterX_0 h ((SR (fun P j => 0 < LC h P (j : Int) tZ.toNat)) (v39Z - 1).toNat) hI v36 v36Z v36E t tZ tE tK hS9 hy0 hy1) (fun z48 h49 z48Z z48E p50 => ?_)
            obtain ⟨eh49, p50⟩ := p50
            subst eh49
            refine V_iload_n 2 d_Rod_crash_53 rfl rfl ?_
            refine V_iconst (-1) d_Rod_crash_54 (by decide) ?_
            refine N_ixor d_Rod_crash_55 (fun z51 z51Z z51E z51e => ?_)
            refine N_iand d_Rod_crash_56 (fun z52 z52Z z52E z52e => ?_)
            have hfl := BP_and p50 (BP_not hS9)
            rw [← z51e, ← z52e] at hfl
            refine V_istore 6 [some (.ref 85), some (.int a), some (.int v36), some (.int v37), some (.int v38), some (.int v39), some (.int z52)] d_Rod_crash_57 (by decide) rfl rfl ?_
            refine V_iload d_Rod_crash_59 rfl ?_
            refine V_if_eq 94 z52E d_Rod_crash_61 (by decide) (fun c53 => ?_) (fun c53 => ?_)
            ·
              have hst : (SR (fun P j => 0 < LC h P (j : Int) tZ.toNat)) ((v39Z - 1).toNat + 1) = (SR (fun P j => 0 < LC h P (j : Int) tZ.toNat)) (v39Z - 1).toNat := SR_st (fun j q => q.elim id (fun w => Classical.byContradiction (fun n => BP_z hfl z52E (by (first | decide +kernel | omega)) j ⟨w, by have := w.1; omega, n⟩)))
              obtain ⟨z54, z54E, z54e⟩ : ∃ y : Int32, y.toInt = v39Z + 1 ∧ y = v39 + Int32.ofInt 1 := ⟨_, ti_add v39E (by decide) (by (first | decide +kernel | omega)), rfl⟩
              refine V_iinc 5 [some (.ref 85), some (.int a), some (.int v36), some (.int v37), some (.int v38), some (.int z54), some (.int z52)] d_Rod_crash_94 rfl z54e.symm (by decide) rfl rfl ?_
              refine V_goto 36 d_Rod_crash_97 (by decide) ?_
              refine V_drop 6 [some (.ref 85), some (.int a), some (.int v36), some (.int v37), some (.int v38), some (.int z54), none] rfl ?_
              exact ihL34 v36 v36Z v37 v37Z v38 v38Z z54 ((v39Z + 1)) v36E v37E v38E z54E (by (first | decide +kernel | omega)) (by rw [show (v39Z + 1 - 1).toNat = (v39Z - 1).toNat + 1 by (first | decide +kernel | omega)]; rw [hst]; exact hS9) (by rw [show (v39Z + 1 - 1).toNat = (v39Z - 1).toNat + 1 by (first | decide +kernel | omega)]; exact RDs_n hR9 hst) (by rw [show (v39Z + 1 - 1).toNat = (v39Z - 1).toNat + 1 by (first | decide +kernel | omega)]; exact hH9.imp id (fun q => HS_n q (fun w => by rw [hst] at w; exact w))) (by (first | decide +kernel | omega))
            ·
              have hg9 : ∃ j : Nat, (SR (fun P j => 0 < LC h P (j : Int) tZ.toNat)) ((v39Z - 1).toNat + 1) j ∧ ¬ (SR (fun P j => 0 < LC h P (j : Int) tZ.toNat)) (v39Z - 1).toNat j := (BP_nz hfl z52E (by (first | decide +kernel | omega))).elim (fun j q => ⟨j, Or.inr q.1, q.2.2⟩)
              refine V_iload d_Rod_crash_64 rfl ?_
              refine V_istore_n 3 [some (.ref 85), some (.int a), some (.int v36), some (.int v39), some (.int v38), some (.int v39), some (.int z52)] d_Rod_crash_66 rfl (by decide) rfl rfl ?_
              refine V_iload_n 2 d_Rod_crash_67 rfl rfl ?_
              refine V_iload d_Rod_crash_68 rfl ?_
              refine N_ior d_Rod_crash_70 (fun z55 z55Z z55E z55e => ?_)
              have hS8 := BP_or hS9 hfl
              rw [← z55e] at hS8
              have hS7 : BP z55 ((SR (fun P j => 0 < LC h P (j : Int) tZ.toNat)) ((v39Z - 1).toNat + 1)) := BP_cg hS8 (fun j => ⟨fun q => q.elim Or.inl (fun w => Or.inr w.1), fun q => q.elim Or.inl (fun w => Classical.byCases Or.inl (fun n => Or.inr ⟨w, by have := w.1; omega, n⟩))⟩)
              refine V_istore_n 2 [some (.ref 85), some (.int a), some (.int z55), some (.int v39), some (.int v38), some (.int v39), some (.int z52)] d_Rod_crash_71 rfl (by decide) rfl rfl ?_
              refine V_iload_n 1 d_Rod_crash_72 rfl rfl ?_
              refine V_bipush 10 d_Rod_crash_73 (by decide) ?_
              refine V_icmp_lt 94 aE tc_10 d_Rod_crash_75 (by decide) (fun c56 => ?_) (fun c56 => ?_)
              ·
                obtain ⟨z57, z57E, z57e⟩ : ∃ y : Int32, y.toInt = v39Z + 1 ∧ y = v39 + Int32.ofInt 1 := ⟨_, ti_add v39E (by decide) (by (first | decide +kernel | omega)), rfl⟩
                refine V_iinc 5 [some (.ref 85), some (.int a), some (.int z55), some (.int v39), some (.int v38), some (.int z57), some (.int z52)] d_Rod_crash_94 rfl z57e.symm (by decide) rfl rfl ?_
                refine V_goto 36 d_Rod_crash_97 (by decide) ?_
                refine V_drop 6 [some (.ref 85), some (.int a), some (.int z55), some (.int v39), some (.int v38), some (.int z57), none] rfl ?_
                exact ihL34 z55 z55Z v39 v39Z v38 v38Z z57 ((v39Z + 1)) z55E v39E v38E z57E (by (first | decide +kernel | omega)) (by rw [show (v39Z + 1 - 1).toNat = (v39Z - 1).toNat + 1 by (first | decide +kernel | omega)]; exact hS7) (by rw [show (v39Z + 1 - 1).toNat = (v39Z - 1).toNat + 1 by (first | decide +kernel | omega)]; have q9 := RDs_g hR9 hg9; rw [show (((v39Z - 1).toNat : Nat) : Int) + 1 = v39Z by (first | decide +kernel | omega)] at q9; exact q9) (Or.inl (by (first | decide +kernel | omega))) (by (first | decide +kernel | omega))
              ·
                refine V_iload d_Rod_crash_78 rfl ?_
                refine V_iload_n 1 d_Rod_crash_80 rfl rfl ?_
                refine V_bipush 10 d_Rod_crash_81 (by decide) ?_
                refine V_isub aE tc_10 (by (first | decide +kernel | omega)) d_Rod_crash_83 (fun z58 z58e z58E => ?_)
                refine N_ishr d_Rod_crash_84 (fun z59 z59Z z59E z59e => ?_)
                refine V_iconst 1 d_Rod_crash_85 (by decide) ?_
                refine N_iand d_Rod_crash_86 (fun z60 z60Z z60E z60e => ?_)
                have hbit := BP_sh hfl z58E (by (first | decide +kernel | omega)) z59e z60e z60E
                refine V_if_eq 94 z60E d_Rod_crash_87 (by decide) (fun c61 => ?_) (fun c61 => ?_)
                ·
                  obtain ⟨z62, z62E, z62e⟩ : ∃ y : Int32, y.toInt = v39Z + 1 ∧ y = v39 + Int32.ofInt 1 := ⟨_, ti_add v39E (by decide) (by (first | decide +kernel | omega)), rfl⟩
                  refine V_iinc 5 [some (.ref 85), some (.int a), some (.int z55), some (.int v39), some (.int v38), some (.int z62), some (.int z52)] d_Rod_crash_94 rfl z62e.symm (by decide) rfl rfl ?_
                  refine V_goto 36 d_Rod_crash_97 (by decide) ?_
                  refine V_drop 6 [some (.ref 85), some (.int a), some (.int z55), some (.int v39), some (.int v38), some (.int z62), none] rfl ?_
                  exact ihL34 z55 z55Z v39 v39Z v38 v38Z z62 ((v39Z + 1)) z55E v39E v38E z62E (by (first | decide +kernel | omega)) (by rw [show (v39Z + 1 - 1).toNat = (v39Z - 1).toNat + 1 by (first | decide +kernel | omega)]; exact hS7) (by rw [show (v39Z + 1 - 1).toNat = (v39Z - 1).toNat + 1 by (first | decide +kernel | omega)]; have q9 := RDs_g hR9 hg9; rw [show (((v39Z - 1).toNat : Nat) : Int) + 1 = v39Z by (first | decide +kernel | omega)] at q9; exact q9) (by rw [show (v39Z + 1 - 1).toNat = (v39Z - 1).toNat + 1 by (first | decide +kernel | omega)]; exact hH9.imp id (fun q => HS_n q (fun w => w.elim id (fun v => Classical.byContradiction (fun n => (hbit.resolve_left (fun q => absurd q.1 (by (first | decide +kernel | omega)))).2 ⟨v, by (first | decide +kernel | omega), n⟩))))) (by (first | decide +kernel | omega))
                ·
                  refine V_iload d_Rod_crash_90 rfl ?_
                  refine V_istore 4 [some (.ref 85), some (.int a), some (.int z55), some (.int v39), some (.int v39), some (.int v39), some (.int z52)] d_Rod_crash_92 (by decide) rfl rfl ?_
                  obtain ⟨z63, z63E, z63e⟩ : ∃ y : Int32, y.toInt = v39Z + 1 ∧ y = v39 + Int32.ofInt 1 := ⟨_, ti_add v39E (by decide) (by (first | decide +kernel | omega)), rfl⟩
                  refine V_iinc 5 [some (.ref 85), some (.int a), some (.int z55), some (.int v39), some (.int v39), some (.int z63), some (.int z52)] d_Rod_crash_94 rfl z63e.symm (by decide) rfl rfl ?_
                  refine V_goto 36 d_Rod_crash_97 (by decide) ?_
                  refine V_drop 6 [some (.ref 85), some (.int a), some (.int z55), some (.int v39), some (.int v39), some (.int z63), none] rfl ?_
                  exact ihL34 z55 z55Z v39 v39Z v39 v39Z z63 ((v39Z + 1)) z55E v39E v39E z63E (by (first | decide +kernel | omega)) (by rw [show (v39Z + 1 - 1).toNat = (v39Z - 1).toNat + 1 by (first | decide +kernel | omega)]; exact hS7) (by rw [show (v39Z + 1 - 1).toNat = (v39Z - 1).toNat + 1 by (first | decide +kernel | omega)]; have q9 := RDs_g hR9 hg9; rw [show (((v39Z - 1).toNat : Nat) : Int) + 1 = v39Z by (first | decide +kernel | omega)] at q9; exact q9) (Or.inr (by rw [show (v39Z + 1 - 1).toNat = (v39Z - 1).toNat + 1 by (first | decide +kernel | omega)]; have q8 := (hbit.resolve_right (fun q => absurd q.1 (by (first | decide +kernel | omega)))).2; have q9 := HS_g (fl := (fun P j => 0 < LC h P (j : Int) tZ.toNat)) (none := -4) (Or.inr q8.1) q8.2.2; rw [show (((v39Z - 1).toNat : Nat) : Int) + 1 = v39Z by (first | decide +kernel | omega)] at q9; exact q9)) (by (first | decide +kernel | omega))
      exact L34 (Int.toNat ((5 - 1 : Int) + 1)) 0 0 0 0 (-4) ((-4)) 1 1 tc_0 tc_0 tc_m4 tc_1 (by (first | decide +kernel | omega)) (BP_cg BP_0 (fun j => Iff.rfl)) RDs_0 (Or.inr HS_0) (by (first | decide +kernel | omega))
    ·
      refine V_iload_n 1 d_Rod_crash_9 rfl rfl ?_
      refine V_bipush 10 d_Rod_crash_10 (by decide) ?_
      refine V_icmp_lt 23 aE tc_10 d_Rod_crash_12 (by decide) (fun c64 => ?_) (fun c64 => ?_)
      ·
        refine V_iconst (-1) d_Rod_crash_23 (by decide) ?_
        exact V_iret rfl d_Rod_crash_24 ⟨(-1), rfl, ⟨rfl, (Or.inr ⟨by (first | decide +kernel | omega), tc_m1⟩)⟩⟩
      ·
        refine V_iload_n 1 d_Rod_crash_15 rfl rfl ?_
        refine V_bipush 10 d_Rod_crash_16 (by decide) ?_
        refine V_isub aE tc_10 (by (first | decide +kernel | omega)) d_Rod_crash_18 (fun z65 z65e z65E => ?_)
        refine V_iconst 4 d_Rod_crash_19 (by decide) ?_
        refine V_icmp_lt 25 z65E tc_4 d_Rod_crash_20 (by decide) (fun c66 => ?_) (fun c66 => ?_)
        ·
          refine V_iconst 0 d_Rod_crash_25 (by decide) ?_
          refine V_istore_n 2 [some (.ref 85), some (.int a), some (.int 0), none, none, none, none] d_Rod_crash_26 rfl (by decide) rfl rfl ?_
          refine V_iconst 0 d_Rod_crash_27 (by decide) ?_
          refine V_istore_n 3 [some (.ref 85), some (.int a), some (.int 0), some (.int 0), none, none, none] d_Rod_crash_28 rfl (by decide) rfl rfl ?_
          refine V_bipush (-4) d_Rod_crash_29 (by decide) ?_
          refine V_istore 4 [some (.ref 85), some (.int a), some (.int 0), some (.int 0), some (.int (-4)), none, none] d_Rod_crash_31 (by decide) rfl rfl ?_
          refine V_iconst 1 d_Rod_crash_33 (by decide) ?_
          refine V_istore 5 [some (.ref 85), some (.int a), some (.int 0), some (.int 0), some (.int (-4)), some (.int 1), none] d_Rod_crash_34 (by decide) rfl rfl ?_
          have L67 : ∀ (nn : Nat) (v69 : Int32) (v69Z : Int) (v70 : Int32) (v70Z : Int) (v71 : Int32) (v71Z : Int) (v72 : Int32) (v72Z : Int), v69.toInt = v69Z → v70.toInt = v70Z → v71.toInt = v71Z → v72.toInt = v72Z → 1 ≤ v72Z ∧ v72Z ≤ 5 → BP v69 ((SR (fun P j => 0 < LC h P (j : Int) tZ.toNat)) (v72Z - 1).toNat) → RDs (SR (fun P j => 0 < LC h P (j : Int) tZ.toNat)) (v72Z - 1).toNat v70Z → (aZ < 10 ∨ HS (SR (fun P j => 0 < LC h P (j : Int) tZ.toNat)) (aZ - 10).toNat (v72Z - 1).toNat v71Z (-4)) → 5 - v72Z < (nn : Int) → V R_Rod b_Rod_crash 7 (some .int) 2 47 (q_Rod_crashX h a aZ t tZ) h 36 [some (.ref 85), some (.int a), some (.int v69), some (.int v70), some (.int v71), some (.int v72), none] [] := by
            intro nn
            induction nn with
            | zero => intro v69 v69Z v70 v70Z v71 v71Z v72 v72Z v69E v70E v71E v72E q73 q74 q75 q76 hm77; exact absurd hm77 (by (first | decide +kernel | omega))
            | succ nn ihL67 =>
              intro v69 v69Z v70 v70Z v71 v71Z v72 v72Z v69E v70E v71E v72E q73 q74 q75 q76 hm77
              refine V_iload d_Rod_crash_36 rfl ?_
              refine V_iconst 4 d_Rod_crash_38 (by decide) ?_
              refine V_icmp_gt 100 v72E tc_4 d_Rod_crash_39 (by decide) (fun c78 => ?_) (fun c78 => ?_)
              ·
                have e4 : (v72Z - 1).toNat = 4 := by (first | decide +kernel | omega)
                have hRE : RDs (SR (fun P j => 0 < LC h P (j : Int) tZ.toNat)) 4 v70Z := by rw [← e4]; assumption
                have hSE : BP v69 ((SR (fun P j => 0 < LC h P (j : Int) tZ.toNat)) 4) := by rw [← e4]; assumption
                have hHE : aZ < 10 ∨ HS (SR (fun P j => 0 < LC h P (j : Int) tZ.toNat)) (aZ - 10).toNat 4 v71Z (-4) := by rw [← e4]; assumption
                refine V_iload_n 1 d_Rod_crash_100 rfl rfl ?_
                refine V_bipush 10 d_Rod_crash_101 (by decide) ?_
                refine V_icmp_lt 109 aE tc_10 d_Rod_crash_103 (by decide) (fun c79 => ?_) (fun c79 => ?_)
                ·
                  refine V_iload_n 1 d_Rod_crash_109 rfl rfl ?_
                  refine V_if_ne 117 aE d_Rod_crash_110 (by decide) (fun c80 => ?_) (fun c80 => ?_)
                  ·
                    refine V_iload_n 3 d_Rod_crash_117 rfl rfl ?_
                    exact V_iret rfl d_Rod_crash_118 ⟨v70, rfl, ⟨rfl, (Or.inl ⟨by (first | decide +kernel | omega), 4, ⟨v70Z, hRE, fun q => v70E⟩, RDs_5 hRE, fun q => (by (first | decide +kernel | omega)), fun q => (by (first | decide +kernel | omega))⟩)⟩⟩
                  ·
                    refine V_iload_n 2 d_Rod_crash_113 rfl rfl ?_
                    refine V_goto 118 d_Rod_crash_114 (by decide) ?_
                    exact V_iret rfl d_Rod_crash_118 ⟨v69, rfl, ⟨rfl, (Or.inl ⟨by (first | decide +kernel | omega), 4, ⟨v70Z, hRE, fun q => (by (first | decide +kernel | omega))⟩, RDs_5 hRE, fun q => hSE, fun q => (by (first | decide +kernel | omega))⟩)⟩⟩
                ·
                  refine V_iload d_Rod_crash_106 rfl ?_
                  exact V_iret rfl d_Rod_crash_108 ⟨v71, rfl, ⟨rfl, (Or.inl ⟨by (first | decide +kernel | omega), 4, ⟨v70Z, hRE, fun q => (by (first | decide +kernel | omega))⟩, RDs_5 hRE, fun q => (by (first | decide +kernel | omega)), fun q => (by rw [v71E]; exact hHE.resolve_left (by (first | decide +kernel | omega)))⟩)⟩⟩
              ·
                have hS9 : BP v69 ((SR (fun P j => 0 < LC h P (j : Int) tZ.toNat)) (v72Z - 1).toNat) := by assumption
                have hR9 : RDs (SR (fun P j => 0 < LC h P (j : Int) tZ.toNat)) (v72Z - 1).toNat v70Z := by assumption
                have hH9 : aZ < 10 ∨ HS (SR (fun P j => 0 < LC h P (j : Int) tZ.toNat)) (aZ - 10).toNat (v72Z - 1).toNat v71Z (-4) := by assumption
                refine V_aload_n 0 d_Rod_crash_42 rfl rfl ?_
                refine V_getR fa_Rod_12 sk_85 rfl d_Rod_crash_43 ?_
                refine V_getR fa_Rod_115 sk_0 rfl d_Rod_crash_46 ?_
                refine V_iload_n 2 d_Rod_crash_49 rfl rfl ?_
                refine N_callVI [.int v69] [] cv_Rod_271 sk_7 rfl d_Rod_crash_50 rfl (Nat.le_of_ble_eq_true rfl) (by decide) (by decide) (c_Ledger_failingAfterX_0 h ((SR (fun P j => 0 < LC h P (j : Int) tZ.toNat)) (v72Z - 1).toNat) hI v69 v69Z v69E t tZ tE tK hS9 hy0 hy1) (fun z81 h82 z81Z z81E p83 => ?_)
                obtain ⟨eh82, p83⟩ := p83
                subst eh82
                refine V_iload_n 2 d_Rod_crash_53 rfl rfl ?_
                refine V_iconst (-1) d_Rod_crash_54 (by decide) ?_
                refine N_ixor d_Rod_crash_55 (fun z84 z84Z z84E z84e => ?_)
                refine N_iand d_Rod_crash_56 (fun z85 z85Z z85E z85e => ?_)
                have hfl := BP_and p83 (BP_not hS9)
                rw [← z84e, ← z85e] at hfl
                refine V_istore 6 [some (.ref 85), some (.int a), some (.int v69), some (.int v70), some (.int v71), some (.int v72), some (.int z85)] d_Rod_crash_57 (by decide) rfl rfl ?_
                refine V_iload d_Rod_crash_59 rfl ?_
                refine V_if_eq 94 z85E d_Rod_crash_61 (by decide) (fun c86 => ?_) (fun c86 => ?_)
                ·
                  have hst : (SR (fun P j => 0 < LC h P (j : Int) tZ.toNat)) ((v72Z - 1).toNat + 1) = (SR (fun P j => 0 < LC h P (j : Int) tZ.toNat)) (v72Z - 1).toNat := SR_st (fun j q => q.elim id (fun w => Classical.byContradiction (fun n => BP_z hfl z85E (by (first | decide +kernel | omega)) j ⟨w, by have := w.1; omega, n⟩)))
                  obtain ⟨z87, z87E, z87e⟩ : ∃ y : Int32, y.toInt = v72Z + 1 ∧ y = v72 + Int32.ofInt 1 := ⟨_, ti_add v72E (by decide) (by (first | decide +kernel | omega)), rfl⟩
                  refine V_iinc 5 [some (.ref 85), some (.int a), some (.int v69), some (.int v70), some (.int v71), some (.int z87), some (.int z85)] d_Rod_crash_94 rfl z87e.symm (by decide) rfl rfl ?_
                  refine V_goto 36 d_Rod_crash_97 (by decide) ?_
                  refine V_drop 6 [some (.ref 85), some (.int a), some (.int v69), some (.int v70), some (.int v71), some (.int z87), none] rfl ?_
                  exact ihL67 v69 v69Z v70 v70Z v71 v71Z z87 ((v72Z + 1)) v69E v70E v71E z87E (by (first | decide +kernel | omega)) (by rw [show (v72Z + 1 - 1).toNat = (v72Z - 1).toNat + 1 by (first | decide +kernel | omega)]; rw [hst]; exact hS9) (by rw [show (v72Z + 1 - 1).toNat = (v72Z - 1).toNat + 1 by (first | decide +kernel | omega)]; exact RDs_n hR9 hst) (by rw [show (v72Z + 1 - 1).toNat = (v72Z - 1).toNat + 1 by (first | decide +kernel | omega)]; exact hH9.imp id (fun q => HS_n q (fun w => by rw [hst] at w; exact w))) (by (first | decide +kernel | omega))
                ·
                  have hg9 : ∃ j : Nat, (SR (fun P j => 0 < LC h P (j : Int) tZ.toNat)) ((v72Z - 1).toNat + 1) j ∧ ¬ (SR (fun P j => 0 < LC h P (j : Int) tZ.toNat)) (v72Z - 1).toNat j := (BP_nz hfl z85E (by (first | decide +kernel | omega))).elim (fun j q => ⟨j, Or.inr q.1, q.2.2⟩)
                  refine V_iload d_Rod_crash_64 rfl ?_
                  refine V_istore_n 3 [some (.ref 85), some (.int a), some (.int v69), some (.int v72), some (.int v71), some (.int v72), some (.int z85)] d_Rod_crash_66 rfl (by decide) rfl rfl ?_
                  refine V_iload_n 2 d_Rod_crash_67 rfl rfl ?_
                  refine V_iload d_Rod_crash_68 rfl ?_
                  refine N_ior d_Rod_crash_70 (fun z88 z88Z z88E z88e => ?_)
                  have hS8 := BP_or hS9 hfl
                  rw [← z88e] at hS8
                  have hS7 : BP z88 ((SR (fun P j => 0 < LC h P (j : Int) tZ.toNat)) ((v72Z - 1).toNat + 1)) := BP_cg hS8 (fun j => ⟨fun q => q.elim Or.inl (fun w => Or.inr w.1), fun q => q.elim Or.inl (fun w => Classical.byCases Or.inl (fun n => Or.inr ⟨w, by have := w.1; omega, n⟩))⟩)
                  refine V_istore_n 2 [some (.ref 85), some (.int a), some (.int z88), some (.int v72), some (.int v71), some (.int v72), some (.int z85)] d_Rod_crash_71 rfl (by decide) rfl rfl ?_
                  refine V_iload_n 1 d_Rod_crash_72 rfl rfl ?_
                  refine V_bipush 10 d_Rod_crash_73 (by decide) ?_
                  refine V_icmp_lt 94 aE tc_10 d_Rod_crash_75 (by decide) (fun c89 => ?_) (fun c89 => ?_)
                  ·
                    obtain ⟨z90, z90E, z90e⟩ : ∃ y : Int32, y.toInt = v72Z + 1 ∧ y = v72 + Int32.ofInt 1 := ⟨_, ti_add v72E (by decide) (by (first | decide +kernel | omega)), rfl⟩
                    refine V_iinc 5 [some (.ref 85), some (.int a), some (.int z88), some (.int v72), some (.int v71), some (.int z90), some (.int z85)] d_Rod_crash_94 rfl z90e.symm (by decide) rfl rfl ?_
                    refine V_goto 36 d_Rod_crash_97 (by decide) ?_
                    refine V_drop 6 [some (.ref 85), some (.int a), some (.int z88), some (.int v72), some (.int v71), some (.int z90), none] rfl ?_
                    exact ihL67 z88 z88Z v72 v72Z v71 v71Z z90 ((v72Z + 1)) z88E v72E v71E z90E (by (first | decide +kernel | omega)) (by rw [show (v72Z + 1 - 1).toNat = (v72Z - 1).toNat + 1 by (first | decide +kernel | omega)]; exact hS7) (by rw [show (v72Z + 1 - 1).toNat = (v72Z - 1).toNat + 1 by (first | decide +kernel | omega)]; have q9 := RDs_g hR9 hg9; rw [show (((v72Z - 1).toNat : Nat) : Int) + 1 = v72Z by (first | decide +kernel | omega)] at q9; exact q9) (Or.inl (by (first | decide +kernel | omega))) (by (first | decide +kernel | omega))
                  ·
                    refine V_iload d_Rod_crash_78 rfl ?_
                    refine V_iload_n 1 d_Rod_crash_80 rfl rfl ?_
                    refine V_bipush 10 d_Rod_crash_81 (by decide) ?_
                    refine V_isub aE tc_10 (by (first | decide +kernel | omega)) d_Rod_crash_83 (fun z91 z91e z91E => ?_)
                    refine N_ishr d_Rod_crash_84 (fun z92 z92Z z92E z92e => ?_)
                    refine V_iconst 1 d_Rod_crash_85 (by decide) ?_
                    refine N_iand d_Rod_crash_86 (fun z93 z93Z z93E z93e => ?_)
                    have hbit := BP_sh hfl z91E (by (first | decide +kernel | omega)) z92e z93e z93E
                    refine V_if_eq 94 z93E d_Rod_crash_87 (by decide) (fun c94 => ?_) (fun c94 => ?_)
                    ·
                      obtain ⟨z95, z95E, z95e⟩ : ∃ y : Int32, y.toInt = v72Z + 1 ∧ y = v72 + Int32.ofInt 1 := ⟨_, ti_add v72E (by decide) (by (first | decide +kernel | omega)), rfl⟩
                      refine V_iinc 5 [some (.ref 85), some (.int a), some (.int z88), some (.int v72), some (.int v71), some (.int z95), some (.int z85)] d_Rod_crash_94 rfl z95e.symm (by decide) rfl rfl ?_
                      refine V_goto 36 d_Rod_crash_97 (by decide) ?_
                      refine V_drop 6 [some (.ref 85), some (.int a), some (.int z88), some (.int v72), some (.int v71), some (.int z95), none] rfl ?_
                      exact ihL67 z88 z88Z v72 v72Z v71 v71Z z95 ((v72Z + 1)) z88E v72E v71E z95E (by (first | decide +kernel | omega)) (by rw [show (v72Z + 1 - 1).toNat = (v72Z - 1).toNat + 1 by (first | decide +kernel | omega)]; exact hS7) (by rw [show (v72Z + 1 - 1).toNat = (v72Z - 1).toNat + 1 by (first | decide +kernel | omega)]; have q9 := RDs_g hR9 hg9; rw [show (((v72Z - 1).toNat : Nat) : Int) + 1 = v72Z by (first | decide +kernel | omega)] at q9; exact q9) (by rw [show (v72Z + 1 - 1).toNat = (v72Z - 1).toNat + 1 by (first | decide +kernel | omega)]; exact hH9.imp id (fun q => HS_n q (fun w => w.elim id (fun v => Classical.byContradiction (fun n => (hbit.resolve_left (fun q => absurd q.1 (by (first | decide +kernel | omega)))).2 ⟨v, by (first | decide +kernel | omega), n⟩))))) (by (first | decide +kernel | omega))
                    ·
                      refine V_iload d_Rod_crash_90 rfl ?_
                      refine V_istore 4 [some (.ref 85), some (.int a), some (.int z88), some (.int v72), some (.int v72), some (.int v72), some (.int z85)] d_Rod_crash_92 (by decide) rfl rfl ?_
                      obtain ⟨z96, z96E, z96e⟩ : ∃ y : Int32, y.toInt = v72Z + 1 ∧ y = v72 + Int32.ofInt 1 := ⟨_, ti_add v72E (by decide) (by (first | decide +kernel | omega)), rfl⟩
                      refine V_iinc 5 [some (.ref 85), some (.int a), some (.int z88), some (.int v72), some (.int v72), some (.int z96), some (.int z85)] d_Rod_crash_94 rfl z96e.symm (by decide) rfl rfl ?_
                      refine V_goto 36 d_Rod_crash_97 (by decide) ?_
                      refine V_drop 6 [some (.ref 85), some (.int a), some (.int z88), some (.int v72), some (.int v72), some (.int z96), none] rfl ?_
                      exact ihL67 z88 z88Z v72 v72Z v72 v72Z z96 ((v72Z + 1)) z88E v72E v72E z96E (by (first | decide +kernel | omega)) (by rw [show (v72Z + 1 - 1).toNat = (v72Z - 1).toNat + 1 by (first | decide +kernel | omega)]; exact hS7) (by rw [show (v72Z + 1 - 1).toNat = (v72Z - 1).toNat + 1 by (first | decide +kernel | omega)]; have q9 := RDs_g hR9 hg9; rw [show (((v72Z - 1).toNat : Nat) : Int) + 1 = v72Z by (first | decide +kernel | omega)] at q9; exact q9) (Or.inr (by rw [show (v72Z + 1 - 1).toNat = (v72Z - 1).toNat + 1 by (first | decide +kernel | omega)]; have q8 := (hbit.resolve_right (fun q => absurd q.1 (by (first | decide +kernel | omega)))).2; have q9 := HS_g (fl := (fun P j => 0 < LC h P (j : Int) tZ.toNat)) (none := -4) (Or.inr q8.1) q8.2.2; rw [show (((v72Z - 1).toNat : Nat) : Int) + 1 = v72Z by (first | decide +kernel | omega)] at q9; exact q9)) (by (first | decide +kernel | omega))
          exact L67 (Int.toNat ((5 - 1 : Int) + 1)) 0 0 0 0 (-4) ((-4)) 1 1 tc_0 tc_0 tc_m4 tc_1 (by (first | decide +kernel | omega)) (BP_cg BP_0 (fun j => Iff.rfl)) RDs_0 (Or.inr HS_0) (by (first | decide +kernel | omega))
        ·
          refine V_iconst (-1) d_Rod_crash_23 (by decide) ?_
          exact V_iret rfl d_Rod_crash_24 ⟨(-1), rfl, ⟨rfl, (Or.inr ⟨by (first | decide +kernel | omega), tc_m1⟩)⟩⟩
end
section
theorem LM_fr {S : List (Nat × Option Nat)} {h h' : Hp} (f : fr S h h') (ck : ckS S 117 117 = true) {P : Nat → Prop} {o : Int} {k : Nat} : LM h' P o k = LM h P o k := by
  have e : h'.1 117 = h.1 117 := funext (fun i => f.1 117 i (ckS_no ck (by (first | decide +kernel | omega)) (by (first | decide +kernel | omega))))
  unfold LM
  rw [e]
def W0 (S : Nat → Nat → Prop) (R : Nat) (k : Int) (w : Nat) (f : Int) : Prop := (w : Int) < k ∧ HS S w (R + 1) f 0 ∨ k ≤ (w : Int) ∧ HS S w R f 0
def FW (S : Nat → Nat → Prop) (R : Nat) (k f0 f1 f2 f3 : Int) : Prop := W0 S R k 0 f0 ∧ W0 S R k 1 f1 ∧ W0 S R k 2 f2 ∧ W0 S R k 3 f3
theorem W0_n {S : Nat → Nat → Prop} {R w : Nat} {k f : Int} (h : W0 S R k w f) (hw : (w : Int) ≠ k) : W0 S R (k + 1) w f := by
  rcases h with ⟨a, b⟩ | ⟨a, b⟩
  · exact Or.inl ⟨by (first | decide +kernel | omega), b⟩
  · exact Or.inr ⟨by (first | decide +kernel | omega), b⟩
theorem W0_F {fl : (Nat → Prop) → Nat → Prop} {R w : Nat} {k f : Int} (h : W0 (SR fl) R k w f) : SR fl R w ↔ f ≠ 0 ∧ f ≤ (R : Int) := by
  have key : ∀ m : Nat, m = R ∨ m = R + 1 → HS (SR fl) w m f 0 → (SR fl R w ↔ f ≠ 0 ∧ f ≤ (R : Int)) := fun m hm q => by
    rcases q with ⟨a, b⟩ | ⟨t, a, b, c, d, e⟩
    · refine ⟨fun z => ?_, fun z => absurd b z.1⟩
      rcases hm with rfl | rfl
      · exact absurd z a
      · exact absurd (SR_up z) a
    · by_cases g : t ≤ R
      · have := SR_le c (R - t)
        rw [show t + (R - t) = R by (first | decide +kernel | omega)] at this
        exact ⟨fun _ => by (first | decide +kernel | omega), fun _ => this⟩
      · have : t = R + 1 := by (first | decide +kernel | omega)
        subst this
        rw [show R + 1 - 1 = R by (first | decide +kernel | omega)] at d
        exact ⟨fun z => absurd z d, fun z => by (first | decide +kernel | omega)⟩
  rcases h with ⟨_, h⟩ | ⟨_, h⟩
  · exact key (R + 1) (Or.inr rfl) h
  · exact key R (Or.inl rfl) h
theorem FW_0 {fl : (Nat → Prop) → Nat → Prop} : FW (SR fl) 0 0 0 0 0 0 := ⟨Or.inr ⟨by (first | decide +kernel | omega), HS_0⟩, Or.inr ⟨by (first | decide +kernel | omega), HS_0⟩, Or.inr ⟨by (first | decide +kernel | omega), HS_0⟩, Or.inr ⟨by (first | decide +kernel | omega), HS_0⟩⟩
theorem FW_s0 {S : Nat → Nat → Prop} {R : Nat} {f0 f1 f2 f3 g : Int} (h : FW S R 0 f0 f1 f2 f3) (n : HS S 0 (R + 1) g 0) : FW S R (0 + 1) g f1 f2 f3 := ⟨Or.inl ⟨by (first | decide +kernel | omega), n⟩, W0_n h.2.1 (by (first | decide +kernel | omega)), W0_n h.2.2.1 (by (first | decide +kernel | omega)), W0_n h.2.2.2 (by (first | decide +kernel | omega))⟩
theorem FW_s1 {S : Nat → Nat → Prop} {R : Nat} {f0 f1 f2 f3 g : Int} (h : FW S R 1 f0 f1 f2 f3) (n : HS S 1 (R + 1) g 0) : FW S R (1 + 1) f0 g f2 f3 := ⟨W0_n h.1 (by (first | decide +kernel | omega)), Or.inl ⟨by (first | decide +kernel | omega), n⟩, W0_n h.2.2.1 (by (first | decide +kernel | omega)), W0_n h.2.2.2 (by (first | decide +kernel | omega))⟩
theorem FW_s2 {S : Nat → Nat → Prop} {R : Nat} {f0 f1 f2 f3 g : Int} (h : FW S R 2 f0 f1 f2 f3) (n : HS S 2 (R + 1) g 0) : FW S R (2 + 1) f0 f1 g f3 := ⟨W0_n h.1 (by (first | decide +kernel | omega)), W0_n h.2.1 (by (first | decide +kernel | omega)), Or.inl ⟨by (first | decide +kernel | omega), n⟩, W0_n h.2.2.2 (by (first | decide +kernel | omega))⟩
theorem FW_s3 {S : Nat → Nat → Prop} {R : Nat} {f0 f1 f2 f3 g : Int} (h : FW S R 3 f0 f1 f2 f3) (n : HS S 3 (R + 1) g 0) : FW S R (3 + 1) f0 f1 f2 g := ⟨W0_n h.1 (by (first | decide +kernel | omega)), W0_n h.2.1 (by (first | decide +kernel | omega)), W0_n h.2.2.1 (by (first | decide +kernel | omega)), Or.inl ⟨by (first | decide +kernel | omega), n⟩⟩
theorem W0_at {S : Nat → Nat → Prop} {R w : Nat} {k f : Int} (h : W0 S R k w f) (hw : k ≤ (w : Int)) : HS S w R f 0 := by
  rcases h with ⟨a, _⟩ | ⟨_, b⟩
  · omega
  · exact b
theorem W0_end {S : Nat → Nat → Prop} {R w : Nat} {k f : Int} (h : W0 S R k w f) (hw : (w : Int) < k) : W0 S (R + 1) 0 w f := by
  rcases h with ⟨_, b⟩ | ⟨a, _⟩
  · exact Or.inr ⟨by (first | decide +kernel | omega), b⟩
  · omega
theorem FW_end {S : Nat → Nat → Prop} {R : Nat} {k f0 f1 f2 f3 : Int} (h : FW S R k f0 f1 f2 f3) (hk : 4 ≤ k) : FW S (R + 1) 0 f0 f1 f2 f3 := ⟨W0_end h.1 (by (first | decide +kernel | omega)), W0_end h.2.1 (by (first | decide +kernel | omega)), W0_end h.2.2.1 (by (first | decide +kernel | omega)), W0_end h.2.2.2 (by (first | decide +kernel | omega))⟩
theorem HS_dn {fl : (Nat → Prop) → Nat → Prop} {w R : Nat} {f : Int} (h : HS (SR fl) w (R + 1) f 0) (e : SR fl (R + 1) = SR fl R) : HS (SR fl) w R f 0 := by
  rcases h with ⟨a, b⟩ | ⟨t, a, b, c, d, g⟩
  · rw [e] at a; exact Or.inl ⟨a, b⟩
  · by_cases z : t ≤ R
    · exact Or.inr ⟨t, a, z, c, d, g⟩
    · have : t = R + 1 := by (first | decide +kernel | omega)
      subst this
      rw [show R + 1 - 1 = R by (first | decide +kernel | omega), ← e] at d
      exact absurd c d
theorem FW_st {fl : (Nat → Prop) → Nat → Prop} {R : Nat} {k f0 f1 f2 f3 : Int} (h : FW (SR fl) R k f0 f1 f2 f3) (hk : 4 ≤ k) (e : SR fl (R + 1) = SR fl R) : FW (SR fl) R 0 f0 f1 f2 f3 := by
  obtain ⟨a, b, c, d⟩ := FW_end h hk
  exact ⟨Or.inr ⟨by (first | decide +kernel | omega), HS_dn (W0_at a (by (first | decide +kernel | omega))) e⟩, Or.inr ⟨by (first | decide +kernel | omega), HS_dn (W0_at b (by (first | decide +kernel | omega))) e⟩, Or.inr ⟨by (first | decide +kernel | omega), HS_dn (W0_at c (by (first | decide +kernel | omega))) e⟩, Or.inr ⟨by (first | decide +kernel | omega), HS_dn (W0_at d (by (first | decide +kernel | omega))) e⟩⟩
theorem FW_F {fl : (Nat → Prop) → Nat → Prop} {R : Nat} {k f0 f1 f2 f3 Q : Int} {g : Hp} {x0 x1 x2 x3 : Int32} (h : FW (SR fl) R k f0 f1 f2 f3) (hQ : Q = (R : Int)) (k0 : g.1 126 0 = x0) (k1 : g.1 126 1 = x1) (k2 : g.1 126 2 = x2) (k3 : g.1 126 3 = x3) (e0 : x0.toInt = f0) (e1 : x1.toInt = f1) (e2 : x2.toInt = f2) (e3 : x3.toInt = f3) : ∀ x : Nat, x < 4 → (SR fl R x ↔ (g.1 126 x).toInt ≠ 0 ∧ (g.1 126 x).toInt ≤ Q) := fun x hx => by
  subst hQ
  rcases (by (first | decide +kernel | omega) : x = 0 ∨ x = 1 ∨ x = 2 ∨ x = 3) with rfl | rfl | rfl | rfl
  · rw [k0, e0]; exact W0_F h.1
  · rw [k1, e1]; exact W0_F h.2.1
  · rw [k2, e2]; exact W0_F h.2.2.1
  · rw [k3, e3]; exact W0_F h.2.2.2
/-- some, and whether someone came: within a round -/
def SB (S : Nat → Nat → Prop) (R : Nat) (k : Int) (j : Nat) : Prop := S R j ∨ (j : Int) < k ∧ S (R + 1) j
theorem SB_0 {S : Nat → Nat → Prop} {R : Nat} {x : Int32} (b : BP x (S R)) : BP x (SB S R 0) := BP_cg b (fun j => ⟨Or.inl, fun q => q.elim id (fun w => by have := w.1; omega)⟩)
theorem SB_n {S : Nat → Nat → Prop} {R : Nat} {x : Int32} {k : Int} (b : BP x (SB S R k)) (hk : 0 ≤ k) (h : S (R + 1) k.toNat → S R k.toNat) : BP x (SB S R (k + 1)) := BP_cg b (fun j => ⟨fun q => q.imp id (fun w => ⟨by (first | decide +kernel | omega), w.2⟩), fun q => q.elim Or.inl (fun w => by
  by_cases z : j = k.toNat
  · rw [z] at w ⊢; exact Or.inl (h w.2)
  · exact Or.inr ⟨by (first | decide +kernel | omega), w.2⟩)⟩)
theorem SB_g {S : Nat → Nat → Prop} {R : Nat} {x c s y : Int32} {k : Int} (b : BP x (SB S R k)) (cE : c.toInt = k) (hk : 0 ≤ k ∧ k < 32) (h : S (R + 1) k.toNat) (e1 : s = 1 <<< (c &&& 31)) (e2 : y = x ||| s) : BP y (SB S R (k + 1)) := by
  rw [e2, e1]
  refine BP_cg (BP_or b (BP_one cE hk)) (fun j => ⟨fun q => ?_, fun q => ?_⟩)
  · rcases q with (q | q) | q
    · exact Or.inl q
    · exact Or.inr ⟨by (first | decide +kernel | omega), q.2⟩
    · exact Or.inr ⟨by (first | decide +kernel | omega), by rw [q]; exact h⟩
  · rcases q with q | q
    · exact Or.inl (Or.inl q)
    · by_cases z : j = k.toNat
      · exact Or.inr z
      · exact Or.inl (Or.inr ⟨by (first | decide +kernel | omega), q.2⟩)
theorem SB_4 {fl : (Nat → Prop) → Nat → Prop} {R : Nat} {x : Int32} {k : Int} (b : BP x (SB (SR fl) R k)) (hk : 4 ≤ k) : BP x (SR fl (R + 1)) := BP_cg b (fun j => ⟨fun q => q.elim SR_up (fun w => w.2), fun q => Or.inr ⟨by have := SR_4 _ _ q; omega, q⟩⟩)
def ON (S : Nat → Nat → Prop) (R : Nat) (k o : Int) : Prop := o = 0 ∧ (∀ j : Nat, (j : Int) < k → S (R + 1) j → S R j) ∨ o = 1 ∧ ∃ j : Nat, S (R + 1) j ∧ ¬ S R j
theorem ON_0 {S : Nat → Nat → Prop} {R : Nat} : ON S R 0 0 := Or.inl ⟨rfl, fun j hj => by (first | decide +kernel | omega)⟩
theorem ON_n {S : Nat → Nat → Prop} {R : Nat} {k o : Int} (h : ON S R k o) (hk : 0 ≤ k) (g : S (R + 1) k.toNat → S R k.toNat) : ON S R (k + 1) o := by
  rcases h with ⟨a, b⟩ | h
  · refine Or.inl ⟨a, fun j hj q => ?_⟩
    by_cases z : j = k.toNat
    · rw [z] at q ⊢; exact g q
    · exact b j (by (first | decide +kernel | omega)) q
  · exact Or.inr h
theorem ON_g {S : Nat → Nat → Prop} {R : Nat} {k : Int} (g : S (R + 1) k.toNat) (n : ¬ S R k.toNat) : ON S R (k + 1) 1 := Or.inr ⟨rfl, _, g, n⟩
theorem ON_st {fl : (Nat → Prop) → Nat → Prop} {R : Nat} {k o : Int} (h : ON (SR fl) R k o) (hk : 4 ≤ k) (ho : o = 0) : SR fl (R + 1) = SR fl R := by
  rcases h with ⟨_, b⟩ | ⟨a, _⟩
  · exact SR_st (fun j q => b j (by have := SR_4 _ _ q; omega) q)
  · omega
/-- a crash's end: bits, rounds, who fell when -/
def FC (fl : (Nat → Prop) → Nat → Prop) (g : Hp) (r : Int32) : Prop := ∃ R : Nat, BP r (SR fl R) ∧ RDs (SR fl) R (R : Int) ∧ SR fl (R + 1) = SR fl R ∧ (g.1 116 30).toInt = (R : Int) ∧ ∀ w : Nat, w < 4 → HS (SR fl) w R (g.1 126 w).toInt 0
theorem FC_of {fl : (Nat → Prop) → Nat → Prop} {g : Hp} {r : Int32} {R : Int} {f0 f1 f2 f3 : Int} {x0 x1 x2 x3 q : Int32} (hR : 0 ≤ R) (b : BP r (SR fl R.toNat)) (d : RDs (SR fl) R.toNat R) (e : SR fl (R.toNat + 1) = SR fl R.toNat) (qK : g.1 116 30 = q) (qE : q.toInt = R) (h : FW (SR fl) R.toNat 0 f0 f1 f2 f3) (k0 : g.1 126 0 = x0) (k1 : g.1 126 1 = x1) (k2 : g.1 126 2 = x2) (k3 : g.1 126 3 = x3) (e0 : x0.toInt = f0) (e1 : x1.toInt = f1) (e2 : x2.toInt = f2) (e3 : x3.toInt = f3) : FC fl g r := by
  refine ⟨R.toNat, b, by rw [show ((R.toNat : Nat) : Int) = R by (first | decide +kernel | omega)]; exact d, e, by rw [qK, qE]; omega, fun w hw => ?_⟩
  rcases (by (first | decide +kernel | omega) : w = 0 ∨ w = 1 ∨ w = 2 ∨ w = 3) with rfl | rfl | rfl | rfl
  · rw [k0, e0]; exact W0_at h.1 (by (first | decide +kernel | omega))
  · rw [k1, e1]; exact W0_at h.2.1 (by (first | decide +kernel | omega))
  · rw [k2, e2]; exact W0_at h.2.2.1 (by (first | decide +kernel | omega))
  · rw [k3, e3]; exact W0_at h.2.2.2 (by (first | decide +kernel | omega))
theorem HS_no {S : Nat → Nat → Prop} {w m : Nat} {x y : Int} (h : HS S w m x 0) (e : x = 0 ∧ y = -4 ∨ x ≠ 0 ∧ y = x) : HS S w m y (-4) := by
  rcases h with ⟨a, b⟩ | ⟨t, a, b, c, d, f⟩
  · exact Or.inl ⟨a, by (first | decide +kernel | omega)⟩
  · exact Or.inr ⟨t, a, b, c, d, by (first | decide +kernel | omega)⟩
/-- it is empty just if nobody FAILS in the first round -/
theorem FC_0 {fl : (Nat → Prop) → Nat → Prop} {g : Hp} {r : Int32} (h : FC fl g r) : r.toInt = 0 ↔ ∀ j : Nat, j < 4 → ¬ fl (fun _ => False) j := by
  obtain ⟨R, b, d, e, _⟩ := h
  constructor
  · intro z j hj f
    have n : ∀ j : Nat, ¬ SR fl R j := BP_z b rfl z
    by_cases hR : R = 0
    · subst hR
      have : SR fl (0 + 1) j := Or.inr ⟨hj, f⟩
      rw [e] at this
      exact this
    · have : SR fl (0 + 1) j := Or.inr ⟨hj, f⟩
      have := SR_le this (R - 1)
      rw [show 0 + 1 + (R - 1) = R by (first | decide +kernel | omega)] at this
      exact n j this
  · intro z
    by_cases q : r.toInt = 0
    · exact q
    · exfalso
      obtain ⟨j, hj⟩ := BP_nz b rfl q
      have s1 : SR fl (0 + 1) = SR fl 0 := SR_st (fun j w => w.elim id (fun v => absurd v.2 (z j v.1)))
      have := SR_st2 s1 R
      rw [Nat.zero_add] at this
      rw [this] at hj
      exact hj
theorem HS_in {fl : (Nat → Prop) → Nat → Prop} {w m : Nat} {f : Int} (h : HS (SR fl) w m f 0) (hf : f ≠ 0) : SR fl m w := by
  rcases h with ⟨_, b⟩ | ⟨t, a, b, c, _⟩
  · exact absurd b hf
  · have := SR_le c (m - t)
    rw [show t + (m - t) = m by (first | decide +kernel | omega)] at this
    exact this
theorem HS_out {S : Nat → Nat → Prop} {w m : Nat} {f : Int} (h : HS S w m f 0) (hf : f = 0) : ¬ S m w := by
  rcases h with ⟨a, _⟩ | ⟨t, a, _, _, _, e⟩
  · exact a
  · omega
/-- who FAILS, of the reference, when so much is put into a purse -/
def FLV (h : Hp) (v m : Int) (k : Nat) : (Nat → Prop) → Nat → Prop := fun P j => 0 < LM h P (j : Int) k - (if (j : Int) = v then m else 0)
theorem FLV_fr {S : List (Nat × Option Nat)} {h h' : Hp} (f : fr S h h') (ck : ckS S 117 117 = true) {v m : Int} {k : Nat} : FLV h' v m k = FLV h v m k := by
  refine funext (fun P => funext (fun j => ?_))
  unfold FLV
  rw [LM_fr f ck]
/-- nobody FAILS at all, when u is put into the purse of o -/
def OKs (N : Int → Int) (o u : Int) : Prop := ∀ j : Nat, j < 4 → ¬ 0 < N (j : Int) - (if (j : Int) = o then u else 0)
def SVm (N : Int → Int) (o : Int) (r : Int32) : Prop := (∃ v : Int, 0 ≤ v ∧ v ≤ 999 ∧ OKs N o v ∧ (∀ u : Int, 0 ≤ u → u < v → ¬ OKs N o u) ∧ r.toInt = v) ∨ (∀ u : Int, 0 ≤ u → u ≤ 999 → ¬ OKs N o u) ∧ r.toInt = -4
def SVc (N : Int → Int) (o : Int) (r : Int32) : Prop := (∃ j : Nat, j < 4 ∧ (j : Int) ≠ o ∧ 0 < N (j : Int)) ∧ r.toInt = -4 ∨ (∀ j : Nat, j < 4 → (j : Int) ≠ o → N (j : Int) ≤ 0) ∧ (0 < N o ∧ r.toInt = N o ∨ N o ≤ 0 ∧ r.toInt = 0)
theorem JR_d {h : Hp} (hI : Inv h) (ra : JA h) (r : JR h) : ∀ i : Nat, i < 8 → (i : Int) < (h.1 7 4).toInt → (0 ≤ (h.1 9 i).toInt ∧ (h.1 9 i).toInt ≤ 3) ∧ 0 ≤ (h.1 11 i).toInt ∧ (h.1 11 i).toInt ≤ 99 := fun i hi hc => by
  have a := r.1.2.2.2.2.2.1 i hi (by rw [Nat.zero_add]; exact hc)
  rw [Nat.zero_add] at a
  have d := ra.1.2.1 i hi (by rw [Nat.zero_add]; exact hc)
  rw [Nat.zero_add, Nat.zero_add, Nat.zero_add, Nat.zero_add, Nat.zero_add, Nat.zero_add] at d
  have b : 0 ≤ (h.1 117 (87 + 3 * i)).toInt ∧ (h.1 117 (87 + 3 * i)).toInt ≤ 3 := by
    have q := hI 117 (87 + 3 * i)
    have e : rg 117 (87 + 3 * i) = (0, 3) := by
      have := st_a (I := ((87 + 3 * i : Nat) : Int)) (by (first | decide +kernel | omega))
      exact this
    rw [e] at q
    exact q
  rw [← d.1] at b
  exact ⟨b, a⟩
theorem JR_p {h : Hp} (r : JR h) : ∀ i : Nat, i < 4 → 0 ≤ (h.1 8 i).toInt ∧ (h.1 8 i).toInt ≤ 999 := fun i hi => by
  have a := r.1.2.2.1 i hi
  rw [Nat.zero_add] at a
  exact a
theorem JR_dm {h : Hp} (ra : JA h) (r : JR h) : ∀ i : Nat, i < 8 → (i : Int) < (h.1 117 86).toInt → 0 ≤ (h.1 117 (89 + 3 * i)).toInt ∧ (h.1 117 (89 + 3 * i)).toInt ≤ 99 := fun i hi hc => by
  rw [← JA_c86 ra] at hc
  have a := r.1.2.2.2.2.2.1 i hi (by rw [Nat.zero_add]; exact hc)
  rw [Nat.zero_add] at a
  have d := ra.1.2.1 i hi (by rw [Nat.zero_add]; exact hc)
  rw [Nat.zero_add, Nat.zero_add, Nat.zero_add, Nat.zero_add, Nat.zero_add, Nat.zero_add] at d
  rw [← d.2.2]
  exact a
theorem JR_pm {h : Hp} (rb : JB h) (r : JR h) : ∀ i : Nat, i < 4 → 0 ≤ (h.1 117 (80 + i)).toInt ∧ (h.1 117 (80 + i)).toInt ≤ 999 := fun i hi => by
  rw [← JB_p rb hi]
  exact JR_p r i hi
end
