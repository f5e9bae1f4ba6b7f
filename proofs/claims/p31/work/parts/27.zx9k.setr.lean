section
abbrev q_Land_besideX_0 (h : Hp) (c : Int32) (cZ : Int) (a : Int32) (aZ : Int) (w : Int32) (wZ : Int) (g : Int32) (gZ : Int) : Option Value → Hp → Prop := pInt (fun r h' => h = h' ∧ (r.toInt = bsd wZ gZ cZ aZ.toNat))
set_option maxRecDepth 100000 in
theorem c_Land_besideX_0 (h : Hp) (hI : Inv h) (c : Int32) (cZ : Int) (cE : c.toInt = cZ) (a : Int32) (aZ : Int) (aE : a.toInt = aZ) (w : Int32) (wZ : Int) (wE : w.toInt = wZ) (wK : h.1 1 0 = w) (g : Int32) (gZ : Int) (gE : g.toInt = gZ) (gK : h.1 1 1 = g) (hy0 : 0 ≤ cZ ∧ cZ < wZ * gZ) (hy1 : 0 ≤ aZ ∧ aZ ≤ 3) : Ct y_Land_beside b_Land_beside 4 (some .int) 2 41 [.ref 1, .int c, .int a] h (q_Land_besideX_0 h c cZ a aZ w wZ g gZ) := by
  refine ct_ow R_Land [some (.ref 1), some (.int c), some (.int a), none] rfl (by decide) rfl (Nat.le_of_ble_eq_true rfl) ?_
  have f0 : fr [] h h := fr_rf
  have g1 : 2 ≤ wZ ∧ wZ ≤ 4 := inv_at hI wE wK.symm rfl
  have g2 : 2 ≤ gZ ∧ gZ ≤ 4 := inv_at hI gE gK.symm rfl
  have m24 := mul24 (A := wZ) (B := gZ) (by (first | decide +kernel | omega)) (by (first | decide +kernel | omega))
  refine V_aload_n 0 d_Land_beside_0 rfl rfl ?_
  refine V_iload_n 1 d_Land_beside_1 rfl rfl ?_
  refine N_callVI [.int c] [] cv_Land_75 sk_1 rfl d_Land_beside_2 rfl (Nat.le_of_ble_eq_true rfl) (by decide) (by decide) (c_Land_hasX_0 h hI c cZ cE w wZ wE wK g gZ gE gK) (fun z3 h4 z3Z z3E p5 => ?_)
  obtain ⟨eh4, p5⟩ := p5
  subst eh4
  refine V_if_ne 10 z3E d_Land_beside_5 (by decide) (fun c6 => ?_) (fun c6 => ?_)
  ·
    refine V_iload_n 1 d_Land_beside_10 rfl rfl ?_
    refine V_aload_n 0 d_Land_beside_11 rfl rfl ?_
    refine N_getK fa_Land_27 sk_1 rfl d_Land_beside_12 wK ?_
    refine N_irem cE wE (by (first | decide +kernel | omega)) d_Land_beside_15 (fun z7 z7e z7E => ?_)
    obtain ⟨z7Z, z7G⟩ : ∃ Y : Int, Y = cZ % wZ := ⟨_, rfl⟩
    rw [← z7G] at z7E
    have g8 : 0 ≤ z7Z ∧ z7Z < wZ := by rw [z7G]; exact ⟨Int.emod_nonneg _ (by (first | decide +kernel | omega)), Int.emod_lt_of_pos _ (by (first | decide +kernel | omega))⟩
    have hcol : z7Z = cZ % wZ := z7G
    refine V_istore_n 3 [some (.ref 1), some (.int c), some (.int a), some (.int z7)] d_Land_beside_16 rfl (by decide) rfl rfl ?_
    refine V_iload_n 2 d_Land_beside_17 rfl rfl ?_
    rcases (by (first | decide +kernel | omega) : (aZ < 0 ∨ 2 < aZ) ∨ aZ = 0 ∨ aZ = 1 ∨ aZ = 2) with c9 | c9 | c9 | c9
    ·
      refine V_tabOut 93 aE d_Land_beside_18 c9 (by decide) ?_
      refine V_aload_n 0 d_Land_beside_93 rfl rfl ?_
      refine V_iload_n 1 d_Land_beside_94 rfl rfl ?_
      refine V_aload_n 0 d_Land_beside_95 rfl rfl ?_
      refine N_getK fa_Land_27 sk_1 rfl d_Land_beside_96 wK ?_
      refine V_iadd cE wE (by (first | decide +kernel | omega)) d_Land_beside_99 (fun z10 z10e z10E => ?_)
      refine N_callVI [.int z10] [] cv_Land_75 sk_1 rfl d_Land_beside_100 rfl (Nat.le_of_ble_eq_true rfl) (by decide) (by decide) (c_Land_hasX_0 h hI z10 ((cZ + wZ)) z10E w wZ wE wK g gZ gE gK) (fun z11 h12 z11Z z11E p13 => ?_)
      obtain ⟨eh12, p13⟩ := p13
      subst eh12
      refine V_if_eq 115 z11E d_Land_beside_103 (by decide) (fun c14 => ?_) (fun c14 => ?_)
      ·
        refine V_iconst (-1) d_Land_beside_115 (by decide) ?_
        exact V_iret rfl d_Land_beside_116 ⟨(-1), rfl, ⟨rfl, (by rw [show Int32.toInt (-1) = (-1) from rfl]; rw [show aZ.toNat = 3 by (first | decide +kernel | omega)]; unfold bsd; rw [if_neg (by decide), if_neg (by decide), if_neg (by decide)]; rw [if_neg (by (first | decide +kernel | omega))])⟩⟩
      ·
        refine V_iload_n 1 d_Land_beside_106 rfl rfl ?_
        refine V_aload_n 0 d_Land_beside_107 rfl rfl ?_
        refine N_getK fa_Land_27 sk_1 rfl d_Land_beside_108 wK ?_
        refine V_iadd cE wE (by (first | decide +kernel | omega)) d_Land_beside_111 (fun z15 z15e z15E => ?_)
        refine V_goto 116 d_Land_beside_112 (by decide) ?_
        exact V_iret rfl d_Land_beside_116 ⟨z15, rfl, ⟨rfl, (by rw [z15E]; rw [show aZ.toNat = 3 by (first | decide +kernel | omega)]; unfold bsd; rw [if_neg (by decide), if_neg (by decide), if_neg (by decide)]; rw [if_pos (by (first | decide +kernel | omega))])⟩⟩
    ·
      refine V_tabIn 44 aE d_Land_beside_18 (by (first | decide +kernel | omega)) (by (first | decide +kernel | omega)) (by rw [c9]; rfl) (by decide) ?_
      refine V_iload_n 1 d_Land_beside_44 rfl rfl ?_
      refine V_aload_n 0 d_Land_beside_45 rfl rfl ?_
      refine N_getK fa_Land_27 sk_1 rfl d_Land_beside_46 wK ?_
      refine V_icmp_lt 61 cE wE d_Land_beside_49 (by decide) (fun c16 => ?_) (fun c16 => ?_)
      ·
        refine V_iconst (-1) d_Land_beside_61 (by decide) ?_
        exact V_iret rfl d_Land_beside_62 ⟨(-1), rfl, ⟨rfl, (by rw [show Int32.toInt (-1) = (-1) from rfl]; rw [show aZ.toNat = 0 by (first | decide +kernel | omega)]; unfold bsd; rw [if_pos rfl]; rw [if_neg (by (first | decide +kernel | omega))])⟩⟩
      ·
        refine V_iload_n 1 d_Land_beside_52 rfl rfl ?_
        refine V_aload_n 0 d_Land_beside_53 rfl rfl ?_
        refine N_getK fa_Land_27 sk_1 rfl d_Land_beside_54 wK ?_
        refine V_isub cE wE (by (first | decide +kernel | omega)) d_Land_beside_57 (fun z17 z17e z17E => ?_)
        refine V_goto 62 d_Land_beside_58 (by decide) ?_
        exact V_iret rfl d_Land_beside_62 ⟨z17, rfl, ⟨rfl, (by rw [z17E]; rw [show aZ.toNat = 0 by (first | decide +kernel | omega)]; unfold bsd; rw [if_pos rfl]; rw [if_pos (by (first | decide +kernel | omega))])⟩⟩
    ·
      refine V_tabIn 63 aE d_Land_beside_18 (by (first | decide +kernel | omega)) (by (first | decide +kernel | omega)) (by rw [c9]; rfl) (by decide) ?_
      refine V_iload_n 3 d_Land_beside_63 rfl rfl ?_
      refine V_if_le 73 z7E d_Land_beside_64 (by decide) (fun c18 => ?_) (fun c18 => ?_)
      ·
        refine V_iconst (-1) d_Land_beside_73 (by decide) ?_
        exact V_iret rfl d_Land_beside_74 ⟨(-1), rfl, ⟨rfl, (by rw [show Int32.toInt (-1) = (-1) from rfl]; rw [show aZ.toNat = 1 by (first | decide +kernel | omega)]; unfold bsd; rw [if_neg (by decide), if_pos rfl, ← hcol]; rw [if_neg (by (first | decide +kernel | omega))])⟩⟩
      ·
        refine V_iload_n 1 d_Land_beside_67 rfl rfl ?_
        refine V_iconst 1 d_Land_beside_68 (by decide) ?_
        refine V_isub cE tc_1 (by (first | decide +kernel | omega)) d_Land_beside_69 (fun z19 z19e z19E => ?_)
        refine V_goto 74 d_Land_beside_70 (by decide) ?_
        exact V_iret rfl d_Land_beside_74 ⟨z19, rfl, ⟨rfl, (by rw [z19E]; rw [show aZ.toNat = 1 by (first | decide +kernel | omega)]; unfold bsd; rw [if_neg (by decide), if_pos rfl, ← hcol]; rw [if_pos (by (first | decide +kernel | omega))])⟩⟩
    ·
      refine V_tabIn 75 aE d_Land_beside_18 (by (first | decide +kernel | omega)) (by (first | decide +kernel | omega)) (by rw [c9]; rfl) (by decide) ?_
      refine V_iload_n 3 d_Land_beside_75 rfl rfl ?_
      refine V_aload_n 0 d_Land_beside_76 rfl rfl ?_
      refine N_getK fa_Land_27 sk_1 rfl d_Land_beside_77 wK ?_
      refine V_iconst 1 d_Land_beside_80 (by decide) ?_
      refine V_isub wE tc_1 (by (first | decide +kernel | omega)) d_Land_beside_81 (fun z20 z20e z20E => ?_)
      refine V_icmp_ge 91 z7E z20E d_Land_beside_82 (by decide) (fun c21 => ?_) (fun c21 => ?_)
      ·
        refine V_iconst (-1) d_Land_beside_91 (by decide) ?_
        exact V_iret rfl d_Land_beside_92 ⟨(-1), rfl, ⟨rfl, (by rw [show Int32.toInt (-1) = (-1) from rfl]; rw [show aZ.toNat = 2 by (first | decide +kernel | omega)]; unfold bsd; rw [if_neg (by decide), if_neg (by decide), if_pos rfl, ← hcol]; rw [if_neg (by (first | decide +kernel | omega))])⟩⟩
      ·
        refine V_iload_n 1 d_Land_beside_85 rfl rfl ?_
        refine V_iconst 1 d_Land_beside_86 (by decide) ?_
        refine V_iadd cE tc_1 (by (first | decide +kernel | omega)) d_Land_beside_87 (fun z22 z22e z22E => ?_)
        refine V_goto 92 d_Land_beside_88 (by decide) ?_
        exact V_iret rfl d_Land_beside_92 ⟨z22, rfl, ⟨rfl, (by rw [z22E]; rw [show aZ.toNat = 2 by (first | decide +kernel | omega)]; unfold bsd; rw [if_neg (by decide), if_neg (by decide), if_pos rfl, ← hcol]; rw [if_pos (by (first | decide +kernel | omega))])⟩⟩
  ·
    exact absurd c6 (by (first | decide +kernel | omega))
abbrev q_Mod_besideX (h : Hp) (c : Int32) (cZ : Int) (a : Int32) (aZ : Int) (w : Int32) (wZ : Int) (g : Int32) (gZ : Int) : Option Value → Hp → Prop := pInt (fun r h' => h = h' ∧ (r.toInt = mb (bsd wZ gZ cZ aZ.toNat)))
set_option maxRecDepth 100000 in
theorem c_Mod_besideX (h : Hp) (hI : Inv h) (c : Int32) (cZ : Int) (cE : c.toInt = cZ) (a : Int32) (aZ : Int) (aE : a.toInt = aZ) (w : Int32) (wZ : Int) (wE : w.toInt = wZ) (wK : h.1 116 2 = w) (g : Int32) (gZ : Int) (gE : g.toInt = gZ) (gK : h.1 116 3 = g) (hy0 : 0 ≤ cZ ∧ cZ < wZ * gZ) (hy1 : 0 ≤ aZ ∧ aZ ≤ 3) : Ct y_Mod_beside b_Mod_beside 4 (some .int) 1 20 [.ref 116, .int c, .int a] h (q_Mod_besideX h c cZ a aZ w wZ g gZ) := by
  refine ct_ow R_Mod [some (.ref 116), some (.int c), some (.int a), none] rfl (by decide) rfl (Nat.le_of_ble_eq_true rfl) ?_
  have f0 : fr [] h h := fr_rf
  have g1 : 2 ≤ wZ ∧ wZ ≤ 4 := inv_at hI wE wK.symm rfl
  have g2 : 2 ≤ gZ ∧ gZ ≤ 4 := inv_at hI gE gK.symm rfl
  have m24 := mul24 (A := wZ) (B := gZ) (by (first | decide +kernel | omega)) (by (first | decide +kernel | omega))
  refine V_iload_n 1 d_Mod_beside_0 rfl rfl ?_
  refine V_aload_n 0 d_Mod_beside_1 rfl rfl ?_
  refine N_getK fa_Mod_81 sk_116 rfl d_Mod_beside_2 wK ?_
  refine N_irem cE wE (by (first | decide +kernel | omega)) d_Mod_beside_5 (fun z3 z3e z3E => ?_)
  obtain ⟨z3Z, z3G⟩ : ∃ Y : Int, Y = cZ % wZ := ⟨_, rfl⟩
  rw [← z3G] at z3E
  have g4 : 0 ≤ z3Z ∧ z3Z < wZ := by rw [z3G]; exact ⟨Int.emod_nonneg _ (by (first | decide +kernel | omega)), Int.emod_lt_of_pos _ (by (first | decide +kernel | omega))⟩
  have hcol : z3Z = cZ % wZ := z3G
  refine V_istore_n 3 [some (.ref 116), some (.int c), some (.int a), some (.int z3)] d_Mod_beside_6 rfl (by decide) rfl rfl ?_
  refine V_iload_n 2 d_Mod_beside_7 rfl rfl ?_
  rcases (by (first | decide +kernel | omega) : (aZ < 0 ∨ 2 < aZ) ∨ aZ = 0 ∨ aZ = 1 ∨ aZ = 2) with c5 | c5 | c5 | c5
  ·
    refine V_tabOut 88 aE d_Mod_beside_8 c5 (by decide) ?_
    refine V_iload_n 1 d_Mod_beside_88 rfl rfl ?_
    refine V_aload_n 0 d_Mod_beside_89 rfl rfl ?_
    refine N_getK fa_Mod_81 sk_116 rfl d_Mod_beside_90 wK ?_
    refine V_iadd cE wE (by (first | decide +kernel | omega)) d_Mod_beside_93 (fun z6 z6e z6E => ?_)
    refine V_aload_n 0 d_Mod_beside_94 rfl rfl ?_
    refine N_callVI [] [.int z6] cv_Mod_183 sk_116 rfl d_Mod_beside_95 rfl (Nat.le_of_ble_eq_true rfl) (by decide) (by decide) (c_Mod_cellMany h hI w wZ wE wK g gZ gE gK) (fun z7 h8 z7Z z7E p9 => ?_)
    obtain ⟨eh8, p9⟩ := p9
    subst eh8
    refine V_icmp_ge 110 z6E z7E d_Mod_beside_98 (by decide) (fun c10 => ?_) (fun c10 => ?_)
    ·
      refine V_bipush (-4) d_Mod_beside_110 (by decide) ?_
      exact V_iret rfl d_Mod_beside_112 ⟨(-4), rfl, ⟨rfl, (by rw [show Int32.toInt (-4) = (-4) from rfl]; rw [show aZ.toNat = 3 by (first | decide +kernel | omega)]; unfold bsd; rw [if_neg (by decide), if_neg (by decide), if_neg (by decide)]; rw [if_neg (by (first | decide +kernel | omega))]; unfold mb; rw [if_pos (by (first | decide +kernel | omega))])⟩⟩
    ·
      refine V_iload_n 1 d_Mod_beside_101 rfl rfl ?_
      refine V_aload_n 0 d_Mod_beside_102 rfl rfl ?_
      refine N_getK fa_Mod_81 sk_116 rfl d_Mod_beside_103 wK ?_
      refine V_iadd cE wE (by (first | decide +kernel | omega)) d_Mod_beside_106 (fun z11 z11e z11E => ?_)
      refine V_goto 112 d_Mod_beside_107 (by decide) ?_
      exact V_iret rfl d_Mod_beside_112 ⟨z11, rfl, ⟨rfl, (by rw [z11E]; rw [show aZ.toNat = 3 by (first | decide +kernel | omega)]; unfold bsd; rw [if_neg (by decide), if_neg (by decide), if_neg (by decide)]; rw [if_pos (by (first | decide +kernel | omega))]; unfold mb; rw [if_neg (by (first | decide +kernel | omega))])⟩⟩
  ·
    refine V_tabIn 36 aE d_Mod_beside_8 (by (first | decide +kernel | omega)) (by (first | decide +kernel | omega)) (by rw [c5]; rfl) (by decide) ?_
    refine V_iload_n 1 d_Mod_beside_36 rfl rfl ?_
    refine V_aload_n 0 d_Mod_beside_37 rfl rfl ?_
    refine N_getK fa_Mod_81 sk_116 rfl d_Mod_beside_38 wK ?_
    refine V_icmp_lt 53 cE wE d_Mod_beside_41 (by decide) (fun c12 => ?_) (fun c12 => ?_)
    ·
      refine V_bipush (-4) d_Mod_beside_53 (by decide) ?_
      exact V_iret rfl d_Mod_beside_55 ⟨(-4), rfl, ⟨rfl, (by rw [show Int32.toInt (-4) = (-4) from rfl]; rw [show aZ.toNat = 0 by (first | decide +kernel | omega)]; unfold bsd; rw [if_pos rfl]; rw [if_neg (by (first | decide +kernel | omega))]; unfold mb; rw [if_pos (by (first | decide +kernel | omega))])⟩⟩
    ·
      refine V_iload_n 1 d_Mod_beside_44 rfl rfl ?_
      refine V_aload_n 0 d_Mod_beside_45 rfl rfl ?_
      refine N_getK fa_Mod_81 sk_116 rfl d_Mod_beside_46 wK ?_
      refine V_isub cE wE (by (first | decide +kernel | omega)) d_Mod_beside_49 (fun z13 z13e z13E => ?_)
      refine V_goto 55 d_Mod_beside_50 (by decide) ?_
      exact V_iret rfl d_Mod_beside_55 ⟨z13, rfl, ⟨rfl, (by rw [z13E]; rw [show aZ.toNat = 0 by (first | decide +kernel | omega)]; unfold bsd; rw [if_pos rfl]; rw [if_pos (by (first | decide +kernel | omega))]; unfold mb; rw [if_neg (by (first | decide +kernel | omega))])⟩⟩
  ·
    refine V_tabIn 56 aE d_Mod_beside_8 (by (first | decide +kernel | omega)) (by (first | decide +kernel | omega)) (by rw [c5]; rfl) (by decide) ?_
    refine V_iload_n 3 d_Mod_beside_56 rfl rfl ?_
    refine V_if_le 66 z3E d_Mod_beside_57 (by decide) (fun c14 => ?_) (fun c14 => ?_)
    ·
      refine V_bipush (-4) d_Mod_beside_66 (by decide) ?_
      exact V_iret rfl d_Mod_beside_68 ⟨(-4), rfl, ⟨rfl, (by rw [show Int32.toInt (-4) = (-4) from rfl]; rw [show aZ.toNat = 1 by (first | decide +kernel | omega)]; unfold bsd; rw [if_neg (by decide), if_pos rfl, ← hcol]; rw [if_neg (by (first | decide +kernel | omega))]; unfold mb; rw [if_pos (by (first | decide +kernel | omega))])⟩⟩
    ·
      have hcp := emod_p (c := cZ) (w := wZ) (by (first | decide +kernel | omega)) (by (first | decide +kernel | omega))
      refine V_iload_n 1 d_Mod_beside_60 rfl rfl ?_
      refine V_iconst 1 d_Mod_beside_61 (by decide) ?_
      refine V_isub cE tc_1 (by (first | decide +kernel | omega)) d_Mod_beside_62 (fun z15 z15e z15E => ?_)
      refine V_goto 68 d_Mod_beside_63 (by decide) ?_
      exact V_iret rfl d_Mod_beside_68 ⟨z15, rfl, ⟨rfl, (by rw [z15E]; rw [show aZ.toNat = 1 by (first | decide +kernel | omega)]; unfold bsd; rw [if_neg (by decide), if_pos rfl, ← hcol]; rw [if_pos (by (first | decide +kernel | omega))]; unfold mb; rw [if_neg (by (first | decide +kernel | omega))])⟩⟩
  ·
    refine V_tabIn 69 aE d_Mod_beside_8 (by (first | decide +kernel | omega)) (by (first | decide +kernel | omega)) (by rw [c5]; rfl) (by decide) ?_
    refine V_iload_n 3 d_Mod_beside_69 rfl rfl ?_
    refine V_iconst 1 d_Mod_beside_70 (by decide) ?_
    refine V_iadd z3E tc_1 (by (first | decide +kernel | omega)) d_Mod_beside_71 (fun z16 z16e z16E => ?_)
    refine V_aload_n 0 d_Mod_beside_72 rfl rfl ?_
    refine N_getK fa_Mod_81 sk_116 rfl d_Mod_beside_73 wK ?_
    refine V_icmp_ge 85 z16E wE d_Mod_beside_76 (by decide) (fun c17 => ?_) (fun c17 => ?_)
    ·
      refine V_bipush (-4) d_Mod_beside_85 (by decide) ?_
      exact V_iret rfl d_Mod_beside_87 ⟨(-4), rfl, ⟨rfl, (by rw [show Int32.toInt (-4) = (-4) from rfl]; rw [show aZ.toNat = 2 by (first | decide +kernel | omega)]; unfold bsd; rw [if_neg (by decide), if_neg (by decide), if_pos rfl, ← hcol]; rw [if_neg (by (first | decide +kernel | omega))]; unfold mb; rw [if_pos (by (first | decide +kernel | omega))])⟩⟩
    ·
      refine V_iload_n 1 d_Mod_beside_79 rfl rfl ?_
      refine V_iconst 1 d_Mod_beside_80 (by decide) ?_
      refine V_iadd cE tc_1 (by (first | decide +kernel | omega)) d_Mod_beside_81 (fun z18 z18e z18E => ?_)
      refine V_goto 87 d_Mod_beside_82 (by decide) ?_
      exact V_iret rfl d_Mod_beside_87 ⟨z18, rfl, ⟨rfl, (by rw [z18E]; rw [show aZ.toNat = 2 by (first | decide +kernel | omega)]; unfold bsd; rw [if_neg (by decide), if_neg (by decide), if_pos rfl, ← hcol]; rw [if_pos (by (first | decide +kernel | omega))]; unfold mb; rw [if_neg (by (first | decide +kernel | omega))])⟩⟩
abbrev q_Walks_bestBesideX (h : Hp) (c : Int32) (cZ : Int) (d : Int32) (dZ : Int) (w : Int32) (wZ : Int) (g : Int32) (gZ : Int) : Option Value → Hp → Prop := pInt (fun r h' => h = h' ∧ (r.toInt = bbN (fun i => (h.1 (95 + dZ.toNat) i).toInt) wZ gZ cZ 4))
set_option maxRecDepth 100000 in
theorem c_Walks_bestBesideX (h : Hp) (hI : Inv h) (c : Int32) (cZ : Int) (cE : c.toInt = cZ) (d : Int32) (dZ : Int) (dE : d.toInt = dZ) (w : Int32) (wZ : Int) (wE : w.toInt = wZ) (wK : h.1 1 0 = w) (g : Int32) (gZ : Int) (gE : g.toInt = gZ) (gK : h.1 1 1 = g) (hy0 : 0 ≤ dZ ∧ dZ ≤ 5) (hy1 : 0 ≤ cZ ∧ cZ < wZ * gZ) : Ct y_Walks_bestBeside b_Walks_bestBeside 7 (some .int) 3 64 [.ref 93, .ref 1, .int c, .int d] h (q_Walks_bestBesideX h c cZ d dZ w wZ g gZ) := by
  refine ct_ow R_Walks [some (.ref 93), some (.ref 1), some (.int c), some (.int d), none, none, none] rfl (by decide) rfl (Nat.le_of_ble_eq_true rfl) ?_
  have f0 : fr [] h h := fr_rf
  have g1 : 2 ≤ wZ ∧ wZ ≤ 4 := inv_at hI wE wK.symm rfl
  have g2 : 2 ≤ gZ ∧ gZ ≤ 4 := inv_at hI gE gK.symm rfl
  have m24 := mul24 (A := wZ) (B := gZ) (by (first | decide +kernel | omega)) (by (first | decide +kernel | omega))
  have bw := (bsd_b (W := wZ) (G := gZ) (c := cZ) (by (first | decide +kernel | omega)) (by (first | decide +kernel | omega)) (by (first | decide +kernel | omega))).1
  refine V_iconst (-1) d_Walks_bestBeside_0 (by decide) ?_
  refine V_istore 4 [some (.ref 93), some (.ref 1), some (.int c), some (.int d), some (.int (-1)), none, none] d_Walks_bestBeside_1 (by decide) rfl rfl ?_
  refine V_iconst 0 d_Walks_bestBeside_3 (by decide) ?_
  refine V_istore 5 [some (.ref 93), some (.ref 1), some (.int c), some (.int d), some (.int (-1)), some (.int 0), none] d_Walks_bestBeside_4 (by decide) rfl rfl ?_
  have L3 : ∀ (nn : Nat) (v5 : Int32) (v5Z : Int) (v6 : Int32) (v6Z : Int), v5.toInt = v5Z → v6.toInt = v6Z → 0 ≤ v6Z ∧ v6Z ≤ 4 → v5Z = bbN (fun i => (h.1 (95 + dZ.toNat) i).toInt) wZ gZ cZ (v6Z).toNat → 4 - v6Z < (nn : Int) → V R_Walks b_Walks_bestBeside 7 (some .int) 3 64 (q_Walks_bestBesideX h c cZ d dZ w wZ g gZ) h 6 [some (.ref 93), some (.ref 1), some (.int c), some (.int d), some (.int v5), some (.int v6), none] [] := by
    intro nn
    induction nn with
    | zero => intro v5 v5Z v6 v6Z v5E v6E q7 q8 hm9; exact absurd hm9 (by (first | decide +kernel | omega))
    | succ nn ihL3 =>
      intro v5 v5Z v6 v6Z v5E v6E q7 q8 hm9
      refine V_iload d_Walks_bestBeside_6 rfl ?_
      refine V_iconst 4 d_Walks_bestBeside_8 (by decide) ?_
      refine V_icmp_ge 62 v6E tc_4 d_Walks_bestBeside_9 (by decide) (fun c10 => ?_) (fun c10 => ?_)
      ·
        refine V_iload d_Walks_bestBeside_62 rfl ?_
        exact V_iret rfl d_Walks_bestBeside_64 ⟨v5, rfl, ⟨rfl, (by rw [v5E, show (4 : Nat) = (v6Z).toNat by (first | decide +kernel | omega)]; assumption)⟩⟩
      ·
        have bq := bbN_b (f := (fun i => (h.1 (95 + dZ.toNat) i).toInt)) (W := wZ) (G := gZ) (c := cZ) (by (first | decide +kernel | omega)) (by (first | decide +kernel | omega)) (by (first | decide +kernel | omega)) (v6Z).toNat (by (first | decide +kernel | omega))
        refine V_aload_n 1 d_Walks_bestBeside_12 rfl rfl ?_
        refine V_iload_n 2 d_Walks_bestBeside_13 rfl rfl ?_
        refine V_iload d_Walks_bestBeside_14 rfl ?_
        refine N_callVI [.int c, .int v6] [] cv_Walks_47 sk_1 rfl d_Walks_bestBeside_16 rfl (Nat.le_of_ble_eq_true rfl) (by decide) (by decide) (c_Land_besideX_0 h hI c cZ cE v6 v6Z v6E w wZ wE wK g gZ gE gK (by (first | decide +kernel | omega)) (by (first | decide +kernel | omega))) (fun z11 h12 z11Z z11E p13 => ?_)
        obtain ⟨eh12, p13⟩ := p13
        subst eh12
        have hk9 : z11Z = bsd wZ gZ cZ (v6Z).toNat := z11E.symm.trans p13
        have bk := bw (v6Z).toNat (by (first | decide +kernel | omega))
        refine V_istore 6 [some (.ref 93), some (.ref 1), some (.int c), some (.int d), some (.int v5), some (.int v6), some (.int z11)] d_Walks_bestBeside_19 (by decide) rfl rfl ?_
        refine V_iload d_Walks_bestBeside_21 rfl ?_
        refine V_if_lt 56 z11E d_Walks_bestBeside_23 (by decide) (fun c14 => ?_) (fun c14 => ?_)
        ·
          have hb9 := bb_n (f := (fun i => (h.1 (95 + dZ.toNat) i).toInt)) (n := v6Z) (by (first | decide +kernel | omega)) hk9 (by assumption) (Or.inl (by (first | decide +kernel | omega)) : _ ∨ _ ∧ (0 : Int) = _ ∧ (0 : Int) = _ ∧ (0 : Int) ≤ 0)
          obtain ⟨z15, z15E, z15e⟩ : ∃ y : Int32, y.toInt = v6Z + 1 ∧ y = v6 + Int32.ofInt 1 := ⟨_, ti_add v6E (by decide) (by (first | decide +kernel | omega)), rfl⟩
          refine V_iinc 5 [some (.ref 93), some (.ref 1), some (.int c), some (.int d), some (.int v5), some (.int z15), some (.int z11)] d_Walks_bestBeside_56 rfl z15e.symm (by decide) rfl rfl ?_
          refine V_goto 6 d_Walks_bestBeside_59 (by decide) ?_
          refine V_drop 6 [some (.ref 93), some (.ref 1), some (.int c), some (.int d), some (.int v5), some (.int z15), none] rfl ?_
          exact ihL3 v5 v5Z z15 ((v6Z + 1)) v5E z15E (by (first | decide +kernel | omega)) hb9 (by (first | decide +kernel | omega))
        ·
          refine V_iload d_Walks_bestBeside_26 rfl ?_
          refine V_if_lt 52 v5E d_Walks_bestBeside_28 (by decide) (fun c16 => ?_) (fun c16 => ?_)
          ·
            refine V_iload d_Walks_bestBeside_52 rfl ?_
            refine V_istore 4 [some (.ref 93), some (.ref 1), some (.int c), some (.int d), some (.int z11), some (.int v6), some (.int z11)] d_Walks_bestBeside_54 (by decide) rfl rfl ?_
            have hb9 := bb_y (f := (fun i => (h.1 (95 + dZ.toNat) i).toInt)) (n := v6Z) (by (first | decide +kernel | omega)) hk9 (by assumption) (by (first | decide +kernel | omega)) (Or.inl (by (first | decide +kernel | omega)) : _ ∨ (0 : Int) = _ ∧ (0 : Int) = _ ∧ (0 : Int) < 0)
            obtain ⟨z17, z17E, z17e⟩ : ∃ y : Int32, y.toInt = v6Z + 1 ∧ y = v6 + Int32.ofInt 1 := ⟨_, ti_add v6E (by decide) (by (first | decide +kernel | omega)), rfl⟩
            refine V_iinc 5 [some (.ref 93), some (.ref 1), some (.int c), some (.int d), some (.int z11), some (.int z17), some (.int z11)] d_Walks_bestBeside_56 rfl z17e.symm (by decide) rfl rfl ?_
            refine V_goto 6 d_Walks_bestBeside_59 (by decide) ?_
            refine V_drop 6 [some (.ref 93), some (.ref 1), some (.int c), some (.int d), some (.int z11), some (.int z17), none] rfl ?_
            exact ihL3 z11 z11Z z17 ((v6Z + 1)) z11E z17E (by (first | decide +kernel | omega)) hb9 (by (first | decide +kernel | omega))
          ·
            refine V_aload_n 0 d_Walks_bestBeside_31 rfl rfl ?_
            refine V_getR fa_Walks_11 sk_93 rfl d_Walks_bestBeside_32 ?_
            refine V_iload_n 3 d_Walks_bestBeside_35 rfl rfl ?_
            refine V_aald (r := (95 + (dZ).toNat)) sk_94 (by decide) dE (by (first | decide +kernel | omega)) (gridAt (by (first | decide +kernel | omega))) d_Walks_bestBeside_36 ?_
            refine V_iload d_Walks_bestBeside_37 rfl ?_
            refine N_iald (gridSk (by (first | decide +kernel | omega))) z11E (by (first | decide +kernel | omega)) d_Walks_bestBeside_39 (fun z18 z18Z z18E z18e => ?_)
            refine V_aload_n 0 d_Walks_bestBeside_40 rfl rfl ?_
            refine V_getR fa_Walks_11 sk_93 rfl d_Walks_bestBeside_41 ?_
            refine V_iload_n 3 d_Walks_bestBeside_44 rfl rfl ?_
            refine V_aald (r := (95 + (dZ).toNat)) sk_94 (by decide) dE (by (first | decide +kernel | omega)) (gridAt (by (first | decide +kernel | omega))) d_Walks_bestBeside_45 ?_
            refine V_iload d_Walks_bestBeside_46 rfl ?_
            refine N_iald (gridSk (by (first | decide +kernel | omega))) v5E (by (first | decide +kernel | omega)) d_Walks_bestBeside_48 (fun z19 z19Z z19E z19e => ?_)
            refine V_icmp_le 56 z18E z19E d_Walks_bestBeside_49 (by decide) (fun c20 => ?_) (fun c20 => ?_)
            ·
              have hb9 := bb_n (f := (fun i => (h.1 (95 + dZ.toNat) i).toInt)) (n := v6Z) (by (first | decide +kernel | omega)) hk9 (by assumption) (Or.inr ⟨by (first | decide +kernel | omega), z19E.symm.trans (congrArg Int32.toInt z19e), z18E.symm.trans (congrArg Int32.toInt z18e), by (first | decide +kernel | omega)⟩)
              obtain ⟨z21, z21E, z21e⟩ : ∃ y : Int32, y.toInt = v6Z + 1 ∧ y = v6 + Int32.ofInt 1 := ⟨_, ti_add v6E (by decide) (by (first | decide +kernel | omega)), rfl⟩
              refine V_iinc 5 [some (.ref 93), some (.ref 1), some (.int c), some (.int d), some (.int v5), some (.int z21), some (.int z11)] d_Walks_bestBeside_56 rfl z21e.symm (by decide) rfl rfl ?_
              refine V_goto 6 d_Walks_bestBeside_59 (by decide) ?_
              refine V_drop 6 [some (.ref 93), some (.ref 1), some (.int c), some (.int d), some (.int v5), some (.int z21), none] rfl ?_
              exact ihL3 v5 v5Z z21 ((v6Z + 1)) v5E z21E (by (first | decide +kernel | omega)) hb9 (by (first | decide +kernel | omega))
            ·
              refine V_iload d_Walks_bestBeside_52 rfl ?_
              refine V_istore 4 [some (.ref 93), some (.ref 1), some (.int c), some (.int d), some (.int z11), some (.int v6), some (.int z11)] d_Walks_bestBeside_54 (by decide) rfl rfl ?_
              have hb9 := bb_y (f := (fun i => (h.1 (95 + dZ.toNat) i).toInt)) (n := v6Z) (by (first | decide +kernel | omega)) hk9 (by assumption) (by (first | decide +kernel | omega)) (Or.inr ⟨z19E.symm.trans (congrArg Int32.toInt z19e), z18E.symm.trans (congrArg Int32.toInt z18e), by (first | decide +kernel | omega)⟩)
              obtain ⟨z22, z22E, z22e⟩ : ∃ y : Int32, y.toInt = v6Z + 1 ∧ y = v6 + Int32.ofInt 1 := ⟨_, ti_add v6E (by decide) (by (first | decide +kernel | omega)), rfl⟩
              refine V_iinc 5 [some (.ref 93), some (.ref 1), some (.int c), some (.int d), some (.int z11), some (.int z22), some (.int z11)] d_Walks_bestBeside_56 rfl z22e.symm (by decide) rfl rfl ?_
              refine V_goto 6 d_Walks_bestBeside_59 (by decide) ?_
              refine V_drop 6 [some (.ref 93), some (.ref 1), some (.int c), some (.int d), some (.int z11), some (.int z22), none] rfl ?_
              exact ihL3 z11 z11Z z22 ((v6Z + 1)) z11E z22E (by (first | decide +kernel | omega)) hb9 (by (first | decide +kernel | omega))
  exact L3 (Int.toNat ((4 - 0 : Int) + 1)) (-1) ((-1)) 0 0 tc_m1 tc_0 (by (first | decide +kernel | omega)) rfl (by (first | decide +kernel | omega))
abbrev q_Mod_bestBesideX (h : Hp) (c : Int32) (cZ : Int) (s : Int32) (sZ : Int) (w : Int32) (wZ : Int) (g : Int32) (gZ : Int) : Option Value → Hp → Prop := pInt (fun r h' => h = h' ∧ (r.toInt = bbN (fun i => (h.1 122 (16 * sZ.toNat + i)).toInt) wZ gZ cZ 4))
set_option maxRecDepth 100000 in
theorem c_Mod_bestBesideX (h : Hp) (hI : Inv h) (c : Int32) (cZ : Int) (cE : c.toInt = cZ) (s : Int32) (sZ : Int) (sE : s.toInt = sZ) (w : Int32) (wZ : Int) (wE : w.toInt = wZ) (wK : h.1 116 2 = w) (g : Int32) (gZ : Int) (gE : g.toInt = gZ) (gK : h.1 116 3 = g) (hy0 : 0 ≤ cZ ∧ cZ < wZ * gZ) (hy1 : 1 ≤ sZ ∧ sZ ≤ 6) : Ct y_Mod_bestBeside b_Mod_bestBeside 6 (some .int) 2 43 [.ref 116, .int c, .int s] h (q_Mod_bestBesideX h c cZ s sZ w wZ g gZ) := by
  refine ct_ow R_Mod [some (.ref 116), some (.int c), some (.int s), none, none, none] rfl (by decide) rfl (Nat.le_of_ble_eq_true rfl) ?_
  have f0 : fr [] h h := fr_rf
  have g1 : 2 ≤ wZ ∧ wZ ≤ 4 := inv_at hI wE wK.symm rfl
  have g2 : 2 ≤ gZ ∧ gZ ≤ 4 := inv_at hI gE gK.symm rfl
  have m24 := mul24 (A := wZ) (B := gZ) (by (first | decide +kernel | omega)) (by (first | decide +kernel | omega))
  have bw := (bsd_b (W := wZ) (G := gZ) (c := cZ) (by (first | decide +kernel | omega)) (by (first | decide +kernel | omega)) (by (first | decide +kernel | omega))).1
  refine V_bipush (-4) d_Mod_bestBeside_0 (by decide) ?_
  refine V_istore_n 3 [some (.ref 116), some (.int c), some (.int s), some (.int (-4)), none, none] d_Mod_bestBeside_2 rfl (by decide) rfl rfl ?_
  refine V_iconst 0 d_Mod_bestBeside_3 (by decide) ?_
  refine V_istore 4 [some (.ref 116), some (.int c), some (.int s), some (.int (-4)), some (.int 0), none] d_Mod_bestBeside_4 (by decide) rfl rfl ?_
  have L3 : ∀ (nn : Nat) (v5 : Int32) (v5Z : Int) (v6 : Int32) (v6Z : Int), v5.toInt = v5Z → v6.toInt = v6Z → 0 ≤ v6Z ∧ v6Z ≤ 4 → v5Z = mb (bbN (fun i => (h.1 122 (16 * sZ.toNat + i)).toInt) wZ gZ cZ (v6Z).toNat) → 4 - v6Z < (nn : Int) → V R_Mod b_Mod_bestBeside 6 (some .int) 2 43 (q_Mod_bestBesideX h c cZ s sZ w wZ g gZ) h 6 [some (.ref 116), some (.int c), some (.int s), some (.int v5), some (.int v6), none] [] := by
    intro nn
    induction nn with
    | zero => intro v5 v5Z v6 v6Z v5E v6E q7 q8 hm9; exact absurd hm9 (by (first | decide +kernel | omega))
    | succ nn ihL3 =>
      intro v5 v5Z v6 v6Z v5E v6E q7 q8 hm9
      refine V_iload d_Mod_bestBeside_6 rfl ?_
      refine V_iconst 4 d_Mod_bestBeside_8 (by decide) ?_
      refine V_icmp_ge 73 v6E tc_4 d_Mod_bestBeside_9 (by decide) (fun c10 => ?_) (fun c10 => ?_)
      ·
        refine V_iload_n 3 d_Mod_bestBeside_73 rfl rfl ?_
        exact V_iret rfl d_Mod_bestBeside_74 ⟨v5, rfl, ⟨rfl, (by have b4 := bbN_4 (f := (fun i => (h.1 122 (16 * sZ.toNat + i)).toInt)) (W := wZ) (G := gZ) (c := cZ) (by (first | decide +kernel | omega)) (by (first | decide +kernel | omega)) (by (first | decide +kernel | omega)); have q9 : v5Z = mb (bbN (fun i => (h.1 122 (16 * sZ.toNat + i)).toInt) wZ gZ cZ 4) := (by rw [show (4 : Nat) = (v6Z).toNat by (first | decide +kernel | omega)]; assumption); rw [v5E, q9]; unfold mb; rw [if_neg (by (first | decide +kernel | omega))])⟩⟩
      ·
        have bq := bbN_b (f := (fun i => (h.1 122 (16 * sZ.toNat + i)).toInt)) (W := wZ) (G := gZ) (c := cZ) (by (first | decide +kernel | omega)) (by (first | decide +kernel | omega)) (by (first | decide +kernel | omega)) (v6Z).toNat (by (first | decide +kernel | omega))
        have mq := mb_s (bbN (fun i => (h.1 122 (16 * sZ.toNat + i)).toInt) wZ gZ cZ (v6Z).toNat)
        refine V_aload_n 0 d_Mod_bestBeside_12 rfl rfl ?_
        refine V_iload_n 1 d_Mod_bestBeside_13 rfl rfl ?_
        refine V_iload d_Mod_bestBeside_14 rfl ?_
        refine N_callVI [.int c, .int v6] [] cv_Mod_243 sk_116 rfl d_Mod_bestBeside_16 rfl (Nat.le_of_ble_eq_true rfl) (by decide) (by decide) (c_Mod_besideX h hI c cZ cE v6 v6Z v6E w wZ wE wK g gZ gE gK (by (first | decide +kernel | omega)) (by (first | decide +kernel | omega))) (fun z11 h12 z11Z z11E p13 => ?_)
        obtain ⟨eh12, p13⟩ := p13
        subst eh12
        have hk9 : z11Z = mb (bsd wZ gZ cZ (v6Z).toNat) := z11E.symm.trans p13
        have bk := bw (v6Z).toNat (by (first | decide +kernel | omega))
        have mk := mb_s (bsd wZ gZ cZ (v6Z).toNat)
        refine V_istore 5 [some (.ref 116), some (.int c), some (.int s), some (.int v5), some (.int v6), some (.int z11)] d_Mod_bestBeside_19 (by decide) rfl rfl ?_
        refine V_iload d_Mod_bestBeside_21 rfl ?_
        refine V_bipush (-4) d_Mod_bestBeside_23 (by decide) ?_
        refine V_icmp_eq 65 z11E tc_m4 d_Mod_bestBeside_25 (by decide) (fun c14 => ?_) (fun c14 => ?_)
        ·
          refine V_iload_n 3 d_Mod_bestBeside_65 rfl rfl ?_
          have hb9 : v5Z = mb (bbN (fun i => (h.1 122 (16 * sZ.toNat + i)).toInt) wZ gZ cZ (v6Z + 1).toNat) := by rw [← bb_n (f := (fun i => (h.1 122 (16 * sZ.toNat + i)).toInt)) (n := v6Z) (K := bsd wZ gZ cZ (v6Z).toNat) (L := bbN (fun i => (h.1 122 (16 * sZ.toNat + i)).toInt) wZ gZ cZ (v6Z).toNat) (Y := 0) (Z := 0) (by (first | decide +kernel | omega)) rfl rfl (Or.inl (by (first | decide +kernel | omega)))]; omega
          refine V_istore_n 3 [some (.ref 116), some (.int c), some (.int s), some (.int v5), some (.int v6), some (.int z11)] d_Mod_bestBeside_66 rfl (by decide) rfl rfl ?_
          obtain ⟨z15, z15E, z15e⟩ : ∃ y : Int32, y.toInt = v6Z + 1 ∧ y = v6 + Int32.ofInt 1 := ⟨_, ti_add v6E (by decide) (by (first | decide +kernel | omega)), rfl⟩
          refine V_iinc 4 [some (.ref 116), some (.int c), some (.int s), some (.int v5), some (.int z15), some (.int z11)] d_Mod_bestBeside_67 rfl z15e.symm (by decide) rfl rfl ?_
          refine V_goto 6 d_Mod_bestBeside_70 (by decide) ?_
          refine V_drop 5 [some (.ref 116), some (.int c), some (.int s), some (.int v5), some (.int z15), none] rfl ?_
          exact ihL3 v5 v5Z z15 ((v6Z + 1)) v5E z15E (by (first | decide +kernel | omega)) hb9 (by (first | decide +kernel | omega))
        ·
          refine V_iload_n 3 d_Mod_bestBeside_28 rfl rfl ?_
          refine V_bipush (-4) d_Mod_bestBeside_29 (by decide) ?_
          refine V_icmp_eq 60 v5E tc_m4 d_Mod_bestBeside_31 (by decide) (fun c16 => ?_) (fun c16 => ?_)
          ·
            refine V_iload d_Mod_bestBeside_60 rfl ?_
            refine V_goto 66 d_Mod_bestBeside_62 (by decide) ?_
            have hb9 : z11Z = mb (bbN (fun i => (h.1 122 (16 * sZ.toNat + i)).toInt) wZ gZ cZ (v6Z + 1).toNat) := by rw [← bb_y (f := (fun i => (h.1 122 (16 * sZ.toNat + i)).toInt)) (n := v6Z) (K := bsd wZ gZ cZ (v6Z).toNat) (L := bbN (fun i => (h.1 122 (16 * sZ.toNat + i)).toInt) wZ gZ cZ (v6Z).toNat) (Y := 0) (Z := 0) (by (first | decide +kernel | omega)) rfl rfl (by (first | decide +kernel | omega)) (Or.inl (by (first | decide +kernel | omega)))]; omega
            refine V_istore_n 3 [some (.ref 116), some (.int c), some (.int s), some (.int z11), some (.int v6), some (.int z11)] d_Mod_bestBeside_66 rfl (by decide) rfl rfl ?_
            obtain ⟨z17, z17E, z17e⟩ : ∃ y : Int32, y.toInt = v6Z + 1 ∧ y = v6 + Int32.ofInt 1 := ⟨_, ti_add v6E (by decide) (by (first | decide +kernel | omega)), rfl⟩
            refine V_iinc 4 [some (.ref 116), some (.int c), some (.int s), some (.int z11), some (.int z17), some (.int z11)] d_Mod_bestBeside_67 rfl z17e.symm (by decide) rfl rfl ?_
            refine V_goto 6 d_Mod_bestBeside_70 (by decide) ?_
            refine V_drop 5 [some (.ref 116), some (.int c), some (.int s), some (.int z11), some (.int z17), none] rfl ?_
            exact ihL3 z11 z11Z z17 ((v6Z + 1)) z11E z17E (by (first | decide +kernel | omega)) hb9 (by (first | decide +kernel | omega))
          ·
            refine V_aload_n 0 d_Mod_bestBeside_34 rfl rfl ?_
            refine V_getR fa_Mod_26 sk_116 rfl d_Mod_bestBeside_35 ?_
            refine V_bipush 16 d_Mod_bestBeside_38 (by decide) ?_
            refine V_iload_n 2 d_Mod_bestBeside_40 rfl rfl ?_
            refine V_imul tc_16 sE (by (first | decide +kernel | omega)) d_Mod_bestBeside_41 (fun z18 z18e z18E => ?_)
            refine V_iload d_Mod_bestBeside_42 rfl ?_
            refine V_iadd z18E z11E (by (first | decide +kernel | omega)) d_Mod_bestBeside_44 (fun z19 z19e z19E => ?_)
            refine N_iald sk_122 z19E (by (first | decide +kernel | omega)) d_Mod_bestBeside_45 (fun z20 z20Z z20E z20e => ?_)
            refine V_aload_n 0 d_Mod_bestBeside_46 rfl rfl ?_
            refine V_getR fa_Mod_26 sk_116 rfl d_Mod_bestBeside_47 ?_
            refine V_bipush 16 d_Mod_bestBeside_50 (by decide) ?_
            refine V_iload_n 2 d_Mod_bestBeside_52 rfl rfl ?_
            refine V_imul tc_16 sE (by (first | decide +kernel | omega)) d_Mod_bestBeside_53 (fun z21 z21e z21E => ?_)
            refine V_iload_n 3 d_Mod_bestBeside_54 rfl rfl ?_
            refine V_iadd z21E v5E (by (first | decide +kernel | omega)) d_Mod_bestBeside_55 (fun z22 z22e z22E => ?_)
            refine N_iald sk_122 z22E (by (first | decide +kernel | omega)) d_Mod_bestBeside_56 (fun z23 z23Z z23E z23e => ?_)
            refine V_icmp_le 65 z20E z23E d_Mod_bestBeside_57 (by decide) (fun c24 => ?_) (fun c24 => ?_)
            ·
              refine V_iload_n 3 d_Mod_bestBeside_65 rfl rfl ?_
              have ey : z23Z = (h.1 122 (16 * sZ.toNat + (bbN (fun i => (h.1 122 (16 * sZ.toNat + i)).toInt) wZ gZ cZ (v6Z).toNat).toNat)).toInt := by rw [← z23E, z23e, show (16 * sZ + v5Z).toNat = 16 * sZ.toNat + (bbN (fun i => (h.1 122 (16 * sZ.toNat + i)).toInt) wZ gZ cZ (v6Z).toNat).toNat by (first | decide +kernel | omega)]
              have ez : z20Z = (h.1 122 (16 * sZ.toNat + (bsd wZ gZ cZ (v6Z).toNat).toNat)).toInt := by rw [← z20E, z20e, show (16 * sZ + z11Z).toNat = 16 * sZ.toNat + (bsd wZ gZ cZ (v6Z).toNat).toNat by (first | decide +kernel | omega)]
              have hb9 : v5Z = mb (bbN (fun i => (h.1 122 (16 * sZ.toNat + i)).toInt) wZ gZ cZ (v6Z + 1).toNat) := by rw [← bb_n (f := (fun i => (h.1 122 (16 * sZ.toNat + i)).toInt)) (n := v6Z) (K := bsd wZ gZ cZ (v6Z).toNat) (L := bbN (fun i => (h.1 122 (16 * sZ.toNat + i)).toInt) wZ gZ cZ (v6Z).toNat) (Y := z23Z) (Z := z20Z) (by (first | decide +kernel | omega)) rfl rfl (Or.inr ⟨by (first | decide +kernel | omega), ey, ez, by (first | decide +kernel | omega)⟩)]; omega
              refine V_istore_n 3 [some (.ref 116), some (.int c), some (.int s), some (.int v5), some (.int v6), some (.int z11)] d_Mod_bestBeside_66 rfl (by decide) rfl rfl ?_
              obtain ⟨z25, z25E, z25e⟩ : ∃ y : Int32, y.toInt = v6Z + 1 ∧ y = v6 + Int32.ofInt 1 := ⟨_, ti_add v6E (by decide) (by (first | decide +kernel | omega)), rfl⟩
              refine V_iinc 4 [some (.ref 116), some (.int c), some (.int s), some (.int v5), some (.int z25), some (.int z11)] d_Mod_bestBeside_67 rfl z25e.symm (by decide) rfl rfl ?_
              refine V_goto 6 d_Mod_bestBeside_70 (by decide) ?_
              refine V_drop 5 [some (.ref 116), some (.int c), some (.int s), some (.int v5), some (.int z25), none] rfl ?_
              exact ihL3 v5 v5Z z25 ((v6Z + 1)) v5E z25E (by (first | decide +kernel | omega)) hb9 (by (first | decide +kernel | omega))
            ·
              refine V_iload d_Mod_bestBeside_60 rfl ?_
              refine V_goto 66 d_Mod_bestBeside_62 (by decide) ?_
              have ey : z23Z = (h.1 122 (16 * sZ.toNat + (bbN (fun i => (h.1 122 (16 * sZ.toNat + i)).toInt) wZ gZ cZ (v6Z).toNat).toNat)).toInt := by rw [← z23E, z23e, show (16 * sZ + v5Z).toNat = 16 * sZ.toNat + (bbN (fun i => (h.1 122 (16 * sZ.toNat + i)).toInt) wZ gZ cZ (v6Z).toNat).toNat by (first | decide +kernel | omega)]
              have ez : z20Z = (h.1 122 (16 * sZ.toNat + (bsd wZ gZ cZ (v6Z).toNat).toNat)).toInt := by rw [← z20E, z20e, show (16 * sZ + z11Z).toNat = 16 * sZ.toNat + (bsd wZ gZ cZ (v6Z).toNat).toNat by (first | decide +kernel | omega)]
              have hb9 : z11Z = mb (bbN (fun i => (h.1 122 (16 * sZ.toNat + i)).toInt) wZ gZ cZ (v6Z + 1).toNat) := by rw [← bb_y (f := (fun i => (h.1 122 (16 * sZ.toNat + i)).toInt)) (n := v6Z) (K := bsd wZ gZ cZ (v6Z).toNat) (L := bbN (fun i => (h.1 122 (16 * sZ.toNat + i)).toInt) wZ gZ cZ (v6Z).toNat) (Y := z23Z) (Z := z20Z) (by (first | decide +kernel | omega)) rfl rfl (by (first | decide +kernel | omega)) (Or.inr ⟨ey, ez, by (first | decide +kernel | omega)⟩)]; omega
              refine V_istore_n 3 [some (.ref 116), some (.int c), some (.int s), some (.int z11), some (.int v6), some (.int z11)] d_Mod_bestBeside_66 rfl (by decide) rfl rfl ?_
              obtain ⟨z26, z26E, z26e⟩ : ∃ y : Int32, y.toInt = v6Z + 1 ∧ y = v6 + Int32.ofInt 1 := ⟨_, ti_add v6E (by decide) (by (first | decide +kernel | omega)), rfl⟩
              refine V_iinc 4 [some (.ref 116), some (.int c), some (.int s), some (.int z11), some (.int z26), some (.int z11)] d_Mod_bestBeside_67 rfl z26e.symm (by decide) rfl rfl ?_
              refine V_goto 6 d_Mod_bestBeside_70 (by decide) ?_
              refine V_drop 5 [some (.ref 116), some (.int c), some (.int s), some (.int z11), some (.int z26), none] rfl ?_
              exact ihL3 z11 z11Z z26 ((v6Z + 1)) z11E z26E (by (first | decide +kernel | omega)) hb9 (by (first | decide +kernel | omega))
  exact L3 (Int.toNat ((4 - 0 : Int) + 1)) (-4) ((-4)) 0 0 tc_m4 tc_0 (by (first | decide +kernel | omega)) rfl (by (first | decide +kernel | omega))
abbrev q_Walks_shownInX (h : Hp) (c : Int32) (cZ : Int) (o : Int32) (oZ : Int) (s : Int32) (sZ : Int) (n : Int32) (nZ : Int) (m : Int32) (mZ : Int) : Option Value → Hp → Prop := pInt (fun r h' => h = h' ∧ (r.toInt = svC h nZ mZ oZ cZ.toNat sZ))
set_option maxRecDepth 100000 in
theorem c_Walks_shownInX (h : Hp) (hI : Inv h) (c : Int32) (cZ : Int) (cE : c.toInt = cZ) (o : Int32) (oZ : Int) (oE : o.toInt = oZ) (s : Int32) (sZ : Int) (sE : s.toInt = sZ) (n : Int32) (nZ : Int) (nE : n.toInt = nZ) (nK : h.1 0 3 = n) (m : Int32) (mZ : Int) (mE : m.toInt = mZ) (mK : h.1 0 4 = m) (hy0 : 0 ≤ cZ ∧ cZ ≤ 15) (hy1 : 0 ≤ sZ) (hy2 : ∀ i : Nat, i < 16 → 0 ≤ (h.1 3 i).toInt ∧ (h.1 3 i).toInt ≤ 1) : Ct y_Walks_shownIn b_Walks_shownIn 5 (some .int) 2 50 [.ref 0, .int c, .int o, .int s] h (q_Walks_shownInX h c cZ o oZ s sZ n nZ m mZ) := by
  refine ct_ow R_Walks [some (.ref 0), some (.int c), some (.int o), some (.int s), none] rfl (by decide) rfl (Nat.le_of_ble_eq_true rfl) ?_
  have f0 : fr [] h h := fr_rf
  obtain ⟨uv, uvZ, uvE, uvK⟩ : ∃ (y : Int32) (Y : Int), y.toInt = Y ∧ h.1 2 (cZ).toNat = y := ⟨_, _, rfl, rfl⟩
  refine V_aload_n 0 d_Walks_shownIn_0 rfl rfl ?_
  refine V_iload_n 1 d_Walks_shownIn_1 rfl rfl ?_
  refine V_iload_n 2 d_Walks_shownIn_2 rfl rfl ?_
  refine V_iload_n 3 d_Walks_shownIn_3 rfl rfl ?_
  refine N_callVI [.int c, .int o, .int s] [] cv_Walks_40 sk_0 rfl d_Walks_shownIn_4 rfl (Nat.le_of_ble_eq_true rfl) (by decide) (by decide) (c_County_twitchesX_0 h hI c cZ cE o oZ oE s sZ sE n nZ nE nK m mZ mE mK (by (first | decide +kernel | omega)) (by (first | decide +kernel | omega)) hy2) (fun z1 h2 z1Z z1E p3 => ?_)
  obtain ⟨eh2, p3⟩ := p3
  subst eh2
  have := twR_01 p3
  refine V_if_eq 14 z1E d_Walks_shownIn_7 (by decide) (fun c4 => ?_) (fun c4 => ?_)
  ·
    refine V_iconst 0 d_Walks_shownIn_14 (by decide) ?_
    refine V_istore 4 [some (.ref 0), some (.int c), some (.int o), some (.int s), some (.int 0)] d_Walks_shownIn_15 (by decide) rfl rfl ?_
    refine V_aload_n 0 d_Walks_shownIn_17 rfl rfl ?_
    refine V_getR fa_Walks_20 sk_0 rfl d_Walks_shownIn_18 ?_
    refine V_getR fa_Walks_44 sk_1 rfl d_Walks_shownIn_21 ?_
    refine V_iload_n 1 d_Walks_shownIn_24 rfl rfl ?_
    refine N_ialdK sk_2 cE (by (first | decide +kernel | omega)) d_Walks_shownIn_25 uvK ?_
    refine V_if_le 36 uvE d_Walks_shownIn_26 (by decide) (fun c6 => ?_) (fun c6 => ?_)
    ·
      refine V_iload d_Walks_shownIn_36 rfl ?_
      exact V_iret rfl d_Walks_shownIn_38 ⟨0, rfl, ⟨rfl, (by unfold svC; rw [uvK, uvE]; exact svv_of p3 z1E (by (try rw [show Int32.toInt 0 = 0 from rfl]); omega))⟩⟩
    ·
      refine V_iload d_Walks_shownIn_29 rfl ?_
      refine V_iconst 1 d_Walks_shownIn_31 (by decide) ?_
      refine V_isubw d_Walks_shownIn_32 (fun z7 z7e => ?_)
      obtain rfl : z7 = (-1) := z7e.trans (by decide)
      refine V_goto 38 d_Walks_shownIn_33 (by decide) ?_
      exact V_iret rfl d_Walks_shownIn_38 ⟨(-1), rfl, ⟨rfl, (by unfold svC; rw [uvK, uvE]; exact svv_of p3 z1E (by (try rw [show Int32.toInt (-1) = (-1) from rfl]); omega))⟩⟩
  ·
    refine V_iconst 2 d_Walks_shownIn_10 (by decide) ?_
    refine V_goto 15 d_Walks_shownIn_11 (by decide) ?_
    refine V_istore 4 [some (.ref 0), some (.int c), some (.int o), some (.int s), some (.int 2)] d_Walks_shownIn_15 (by decide) rfl rfl ?_
    refine V_aload_n 0 d_Walks_shownIn_17 rfl rfl ?_
    refine V_getR fa_Walks_20 sk_0 rfl d_Walks_shownIn_18 ?_
    refine V_getR fa_Walks_44 sk_1 rfl d_Walks_shownIn_21 ?_
    refine V_iload_n 1 d_Walks_shownIn_24 rfl rfl ?_
    refine N_ialdK sk_2 cE (by (first | decide +kernel | omega)) d_Walks_shownIn_25 uvK ?_
    refine V_if_le 36 uvE d_Walks_shownIn_26 (by decide) (fun c9 => ?_) (fun c9 => ?_)
    ·
      refine V_iload d_Walks_shownIn_36 rfl ?_
      exact V_iret rfl d_Walks_shownIn_38 ⟨2, rfl, ⟨rfl, (by unfold svC; rw [uvK, uvE]; exact svv_of p3 z1E (by (try rw [show Int32.toInt 2 = 2 from rfl]); omega))⟩⟩
    ·
      refine V_iload d_Walks_shownIn_29 rfl ?_
      refine V_iconst 1 d_Walks_shownIn_31 (by decide) ?_
      refine V_isubw d_Walks_shownIn_32 (fun z10 z10e => ?_)
      obtain rfl : z10 = 1 := z10e.trans (by decide)
      refine V_goto 38 d_Walks_shownIn_33 (by decide) ?_
      exact V_iret rfl d_Walks_shownIn_38 ⟨1, rfl, ⟨rfl, (by unfold svC; rw [uvK, uvE]; exact svv_of p3 z1E (by (try rw [show Int32.toInt 1 = 1 from rfl]); omega))⟩⟩
abbrev q_Mod_showsInX (h : Hp) (c : Int32) (cZ : Int) (o : Int32) (oZ : Int) (s : Int32) (sZ : Int) (n : Int32) (nZ : Int) (m : Int32) (mZ : Int) : Option Value → Hp → Prop := pInt (fun r h' => h = h' ∧ (r.toInt = svM h nZ mZ oZ cZ.toNat sZ))
set_option maxRecDepth 100000 in
theorem c_Mod_showsInX (h : Hp) (hI : Inv h) (c : Int32) (cZ : Int) (cE : c.toInt = cZ) (o : Int32) (oZ : Int) (oE : o.toInt = oZ) (s : Int32) (sZ : Int) (sE : s.toInt = sZ) (n : Int32) (nZ : Int) (nE : n.toInt = nZ) (nK : h.1 117 84 = n) (m : Int32) (mZ : Int) (mE : m.toInt = mZ) (mK : h.1 117 85 = m) (hy0 : 0 ≤ cZ ∧ cZ ≤ 15) (hy1 : 0 ≤ sZ) : Ct y_Mod_showsIn b_Mod_showsIn 4 (some .int) 1 27 [.ref 116, .int c, .int o, .int s] h (q_Mod_showsInX h c cZ o oZ s sZ n nZ m mZ) := by
  refine ct_ow R_Mod [some (.ref 116), some (.int c), some (.int o), some (.int s)] rfl (by decide) rfl (Nat.le_of_ble_eq_true rfl) ?_
  have f0 : fr [] h h := fr_rf
  obtain ⟨uv, uvZ, uvE, uvK⟩ : ∃ (y : Int32) (Y : Int), y.toInt = Y ∧ h.1 117 ((0 + cZ)).toNat = y := ⟨_, _, rfl, rfl⟩
  refine V_iconst 2 d_Mod_showsIn_0 (by decide) ?_
  refine V_aload_n 0 d_Mod_showsIn_1 rfl rfl ?_
  refine V_aload_n 0 d_Mod_showsIn_2 rfl rfl ?_
  refine V_getR fa_Mod_7 sk_116 rfl d_Mod_showsIn_3 ?_
  refine V_bipush 84 d_Mod_showsIn_6 (by decide) ?_
  refine N_ialdK sk_117 tc_84 (by (first | decide +kernel | omega)) d_Mod_showsIn_8 nK ?_
  refine V_aload_n 0 d_Mod_showsIn_9 rfl rfl ?_
  refine V_getR fa_Mod_7 sk_116 rfl d_Mod_showsIn_10 ?_
  refine V_bipush 85 d_Mod_showsIn_13 (by decide) ?_
  refine N_ialdK sk_117 tc_85 (by (first | decide +kernel | omega)) d_Mod_showsIn_15 mK ?_
  refine V_iload_n 1 d_Mod_showsIn_16 rfl rfl ?_
  refine V_iload_n 2 d_Mod_showsIn_17 rfl rfl ?_
  refine V_iload_n 3 d_Mod_showsIn_18 rfl rfl ?_
  refine N_callVI [.int n, .int m, .int c, .int o, .int s] [.int 2] cv_Mod_229 sk_116 rfl d_Mod_showsIn_19 rfl (Nat.le_of_ble_eq_true rfl) (by decide) (by decide) (c_Mod_doesTwitchX h hI n nZ nE m mZ mE c cZ cE o oZ oE s sZ sE (by (first | decide +kernel | omega)) (by (first | decide +kernel | omega))) (fun z3 h4 z3Z z3E p5 => ?_)
  obtain ⟨eh4, p5⟩ := p5
  subst eh4
  have := twR_01 p5
  refine N_callSI [.int z3] [.int 2] cs_Mod_196 d_Mod_showsIn_22 rfl (Nat.le_of_ble_eq_true rfl) (by decide) (by decide) (c_Mod_flag h z3 z3Z z3E) (fun z6 h7 z6Z z6E p8 => ?_)
  obtain ⟨eh7, p8⟩ := p8
  subst eh7
  refine V_imul tc_2 z6E (by (first | decide +kernel | omega)) d_Mod_showsIn_25 (fun z9 z9e z9E => ?_)
  refine V_aload_n 0 d_Mod_showsIn_26 rfl rfl ?_
  refine V_getR fa_Mod_7 sk_116 rfl d_Mod_showsIn_27 ?_
  refine V_iconst 0 d_Mod_showsIn_30 (by decide) ?_
  refine V_iload_n 1 d_Mod_showsIn_31 rfl rfl ?_
  refine V_iadd tc_0 cE (by (first | decide +kernel | omega)) d_Mod_showsIn_32 (fun z10 z10e z10E => ?_)
  refine N_ialdK sk_117 z10E (by (first | decide +kernel | omega)) d_Mod_showsIn_33 uvK ?_
  refine V_if_le 41 uvE d_Mod_showsIn_34 (by decide) (fun c12 => ?_) (fun c12 => ?_)
  ·
    refine V_iconst 0 d_Mod_showsIn_41 (by decide) ?_
    refine N_callSI [.int 0] [.int z9] cs_Mod_196 d_Mod_showsIn_42 rfl (Nat.le_of_ble_eq_true rfl) (by decide) (by decide) (c_Mod_flag h 0 0 tc_0) (fun z13 h14 z13Z z13E p15 => ?_)
    obtain ⟨eh14, p15⟩ := p15
    subst eh14
    refine V_isub z9E z13E (by (first | decide +kernel | omega)) d_Mod_showsIn_45 (fun z16 z16e z16E => ?_)
    exact V_iret rfl d_Mod_showsIn_46 ⟨z16, rfl, ⟨rfl, (by unfold svM; rw [show cZ.toNat = (0 + cZ).toNat by (first | decide +kernel | omega), uvK, uvE, show (0 + cZ).toNat = cZ.toNat by (first | decide +kernel | omega)]; exact svv_of (twR_fl p5 z3E p8) z6E (by rw [z16E]; omega))⟩⟩
  ·
    refine V_iconst 1 d_Mod_showsIn_37 (by decide) ?_
    refine V_goto 42 d_Mod_showsIn_38 (by decide) ?_
    refine N_callSI [.int 1] [.int z9] cs_Mod_196 d_Mod_showsIn_42 rfl (Nat.le_of_ble_eq_true rfl) (by decide) (by decide) (c_Mod_flag h 1 1 tc_1) (fun z17 h18 z17Z z17E p19 => ?_)
    obtain ⟨eh18, p19⟩ := p19
    subst eh18
    refine V_isub z9E z17E (by (first | decide +kernel | omega)) d_Mod_showsIn_45 (fun z20 z20e z20E => ?_)
    exact V_iret rfl d_Mod_showsIn_46 ⟨z20, rfl, ⟨rfl, (by unfold svM; rw [show cZ.toNat = (0 + cZ).toNat by (first | decide +kernel | omega), uvK, uvE, show (0 + cZ).toNat = cZ.toNat by (first | decide +kernel | omega)]; exact svv_of (twR_fl p5 z3E p8) z6E (by rw [z20E]; omega))⟩⟩
def S_Walks_findX : List (Nat × Option Nat) := [(95, none), (96, none), (97, none), (98, none), (99, none), (100, none), (101, none)]
abbrev q_Walks_findX (h : Hp) (c : Int32) (cZ : Int) (o : Int32) (oZ : Int) (n : Int32) (nZ : Int) (w : Int32) (wZ : Int) (g : Int32) (gZ : Int) (p : Int32) (pZ : Int) (m : Int32) (mZ : Int) : Option Value → Hp → Prop := pVd (fun h' => Inv h' ∧ fr S_Walks_findX h h' ∧ ((∀ i : Int, 0 ≤ i → i < nZ → VR (vv9 (svC h pZ mZ oZ) wZ gZ nZ) (wZ * gZ) h' (95 + i.toNat) 0 (nZ - 1 - i).toNat 16) ∧ PT (pth (vv9 (svC h pZ mZ oZ) wZ gZ nZ) wZ gZ nZ cZ) h' nZ))
set_option maxRecDepth 100000 in
theorem c_Walks_findX (h : Hp) (hI : Inv h) (c : Int32) (cZ : Int) (cE : c.toInt = cZ) (o : Int32) (oZ : Int) (oE : o.toInt = oZ) (n : Int32) (nZ : Int) (nE : n.toInt = nZ) (w : Int32) (wZ : Int) (wE : w.toInt = wZ) (wK : h.1 1 0 = w) (g : Int32) (gZ : Int) (gE : g.toInt = gZ) (gK : h.1 1 1 = g) (p : Int32) (pZ : Int) (pE : p.toInt = pZ) (pK : h.1 0 3 = p) (m : Int32) (mZ : Int) (mE : m.toInt = mZ) (mK : h.1 0 4 = m) (hy0 : 0 ≤ cZ ∧ cZ < wZ * gZ) (hy1 : 1 ≤ nZ ∧ nZ ≤ 6) (hy2 : ∀ i : Nat, i < 16 → 0 ≤ (h.1 3 i).toInt ∧ (h.1 3 i).toInt ≤ 1) : Ct y_Walks_find b_Walks_find 8 none 4 90 [.ref 93, .ref 0, .int c, .int o, .int n] h (q_Walks_findX h c cZ o oZ n nZ w wZ g gZ p pZ m mZ) := by
  refine ct_ow R_Walks [some (.ref 93), some (.ref 0), some (.int c), some (.int o), some (.int n), none, none, none] rfl (by decide) rfl (Nat.le_of_ble_eq_true rfl) ?_
  have f0 : fr S_Walks_findX h h := fr_rf
  have g1 : 2 ≤ wZ ∧ wZ ≤ 4 := inv_at hI wE wK.symm rfl
  have g2 : 2 ≤ gZ ∧ gZ ≤ 4 := inv_at hI gE gK.symm rfl
  have m24 := mul24 (A := wZ) (B := gZ) (by (first | decide +kernel | omega)) (by (first | decide +kernel | omega))
  refine V_iload d_Walks_find_0 rfl ?_
  refine V_iconst 1 d_Walks_find_2 (by decide) ?_
  refine V_isub nE tc_1 (by (first | decide +kernel | omega)) d_Walks_find_3 (fun z3 z3e z3E => ?_)
  refine V_istore 5 [some (.ref 93), some (.ref 0), some (.int c), some (.int o), some (.int n), some (.int z3), none, none] d_Walks_find_4 (by decide) rfl rfl ?_
  have L4 : ∀ (nn : Nat) (v6 : Int32) (v6Z : Int) (h7 : Hp), v6.toInt = v6Z → Inv h7 → fr S_Walks_findX h h7 → h7.1 1 0 = w → h7.1 1 1 = g → h7.1 0 3 = p → h7.1 0 4 = m → -1 ≤ v6Z ∧ v6Z ≤ nZ - 1 → (∀ i : Int, v6Z < i → i < nZ → VR (vv9 (svC h pZ mZ oZ) wZ gZ nZ) (wZ * gZ) h7 (95 + i.toNat) 0 (nZ - 1 - i).toNat 16) → v6Z + 1 < (nn : Int) → V R_Walks b_Walks_find 8 none 4 90 (q_Walks_findX h c cZ o oZ n nZ w wZ g gZ p pZ m mZ) h7 6 [some (.ref 93), some (.ref 0), some (.int c), some (.int o), some (.int n), some (.int v6), none, none] [] := by
    intro nn
    induction nn with
    | zero => intro v6 v6Z h7 v6E Ih7 Fh7 K8 K9 K10 K11 q12 q13 hm14; exact absurd hm14 (by (first | decide +kernel | omega))
    | succ nn ihL4 =>
      intro v6 v6Z h7 v6E Ih7 Fh7 K8 K9 K10 K11 q12 q13 hm14
      refine V_iload d_Walks_find_6 rfl ?_
      refine V_if_lt 110 v6E d_Walks_find_8 (by decide) (fun c15 => ?_) (fun c15 => ?_)
      ·
        have hr8 : (∀ i : Int, v6Z < i → i < nZ → VR (vv9 (svC h pZ mZ oZ) wZ gZ nZ) (wZ * gZ) h7 (95 + i.toNat) 0 (nZ - 1 - i).toNat 16) := by assumption
        refine V_aload_n 0 d_Walks_find_110 rfl rfl ?_
        refine V_getR fa_Walks_16 sk_93 rfl d_Walks_find_111 ?_
        refine V_iconst 0 d_Walks_find_114 (by decide) ?_
        refine V_iload_n 2 d_Walks_find_115 rfl rfl ?_
        refine N_iast sk_101 tc_0 (by (first | decide +kernel | omega)) d_Walks_find_116 (fun h16 eh16 => ?_)
        have hI17 : Inv h16 := inv_full Ih7 eh16 rfl
        have f18 : fr S_Walks_findX h h16 := fr_put Fh7 eh16 rfl
        refine V_iconst 1 d_Walks_find_117 (by decide) ?_
        refine V_istore 5 [some (.ref 93), some (.ref 0), some (.int c), some (.int o), some (.int n), some (.int 1), none, none] d_Walks_find_118 (by decide) rfl rfl ?_
        have L19 : ∀ (nn : Nat) (v21 : Int32) (v21Z : Int) (h22 : Hp), v21.toInt = v21Z → Inv h22 → fr S_Walks_findX h h22 → h22.1 1 0 = w → h22.1 1 1 = g → 1 ≤ v21Z ∧ v21Z ≤ nZ → (∀ i : Int, 0 ≤ i → i < nZ → VR (vv9 (svC h pZ mZ oZ) wZ gZ nZ) (wZ * gZ) h22 (95 + i.toNat) 0 (nZ - 1 - i).toNat 16) → PT (pth (vv9 (svC h pZ mZ oZ) wZ gZ nZ) wZ gZ nZ cZ) h22 v21Z → nZ - v21Z < (nn : Int) → V R_Walks b_Walks_find 8 none 4 90 (q_Walks_findX h c cZ o oZ n nZ w wZ g gZ p pZ m mZ) h22 120 [some (.ref 93), some (.ref 0), some (.int c), some (.int o), some (.int n), some (.int v21), none, none] [] := by
          intro nn
          induction nn with
          | zero => intro v21 v21Z h22 v21E Ih22 Fh22 K23 K24 q25 q26 q27 hm28; exact absurd hm28 (by (first | decide +kernel | omega))
          | succ nn ihL19 =>
            intro v21 v21Z h22 v21E Ih22 Fh22 K23 K24 q25 q26 q27 hm28
            refine V_iload d_Walks_find_120 rfl ?_
            refine V_iload d_Walks_find_122 rfl ?_
            refine V_icmp_ge 159 v21E nE d_Walks_find_124 (by decide) (fun c29 => ?_) (fun c29 => ?_)
            ·
              exact V_vret rfl d_Walks_find_159 ⟨rfl, ⟨Ih22, Fh22, ⟨by assumption, fun i hi => (show PT (pth (vv9 (svC h pZ mZ oZ) wZ gZ nZ) wZ gZ nZ cZ) h22 v21Z from by assumption) i (by (first | decide +kernel | omega))⟩⟩⟩
            ·
              have hr7 : (∀ i : Int, 0 ≤ i → i < nZ → VR (vv9 (svC h pZ mZ oZ) wZ gZ nZ) (wZ * gZ) h22 (95 + i.toNat) 0 (nZ - 1 - i).toNat 16) := by assumption
              have hp7 : PT (pth (vv9 (svC h pZ mZ oZ) wZ gZ nZ) wZ gZ nZ cZ) h22 v21Z := by assumption
              have hpb := pth_b (v := (vv9 (svC h pZ mZ oZ) wZ gZ nZ)) (W := wZ) (G := gZ) (n := nZ) (c := cZ) (by (first | decide +kernel | omega)) (by (first | decide +kernel | omega)) (by (first | decide +kernel | omega)) (v21Z - 1).toNat
              refine V_aload_n 0 d_Walks_find_127 rfl rfl ?_
              refine V_getR fa_Walks_16 sk_93 rfl d_Walks_find_128 ?_
              refine V_iload d_Walks_find_131 rfl ?_
              refine V_aload_n 0 d_Walks_find_133 rfl rfl ?_
              refine V_aload_n 1 d_Walks_find_134 rfl rfl ?_
              refine V_getR fa_Walks_20 sk_0 rfl d_Walks_find_135 ?_
              refine V_aload_n 0 d_Walks_find_138 rfl rfl ?_
              refine V_getR fa_Walks_16 sk_93 rfl d_Walks_find_139 ?_
              refine V_iload d_Walks_find_142 rfl ?_
              refine V_iconst 1 d_Walks_find_144 (by decide) ?_
              refine V_isub v21E tc_1 (by (first | decide +kernel | omega)) d_Walks_find_145 (fun z30 z30e z30E => ?_)
              refine N_iald sk_101 z30E (by (first | decide +kernel | omega)) d_Walks_find_146 (fun z31 z31Z z31E z31e => ?_)
              have hp6 : z31Z = (pth (vv9 (svC h pZ mZ oZ) wZ gZ nZ) wZ gZ nZ cZ) (v21Z - 1).toNat := by rw [← z31E, z31e]; exact hp7 _ (by (first | decide +kernel | omega))
              rw [← hp6] at hpb
              refine V_iload d_Walks_find_147 rfl ?_
              refine N_callVI [.ref 1, .int z31, .int v21] [.int v21, .ref 101] cv_Walks_32 sk_93 rfl d_Walks_find_149 rfl (Nat.le_of_ble_eq_true rfl) (by decide) (by decide) (c_Walks_bestBesideX h22 Ih22 z31 z31Z z31E v21 v21Z v21E w wZ wE K23 g gZ gE K24 (by (first | decide +kernel | omega)) (by (first | decide +kernel | omega))) (fun z32 h33 z32Z z32E p34 => ?_)
              obtain ⟨eh33, p34⟩ := p34
              subst eh33
              have hx7 : z32Z = (pth (vv9 (svC h pZ mZ oZ) wZ gZ nZ) wZ gZ nZ cZ) (v21Z).toNat := by rw [pth_s (by (first | decide +kernel | omega)), ← hp6, ← z32E, p34]; exact bbN_cg (by (first | decide +kernel | omega)) (by (first | decide +kernel | omega)) (by (first | decide +kernel | omega)) (fun i hi => by have q9 := hr7 v21Z (by (first | decide +kernel | omega)) (by (first | decide +kernel | omega)) i (by (first | decide +kernel | omega)) hi; rw [Nat.zero_add] at q9; exact q9) 4 (by (first | decide +kernel | omega))
              refine N_iast sk_101 v21E (by (first | decide +kernel | omega)) d_Walks_find_152 (fun h35 eh35 => ?_)
              have hI36 : Inv h35 := inv_full Ih22 eh35 rfl
              have f37 : fr S_Walks_findX h h35 := fr_put Fh22 eh35 rfl
              obtain ⟨z38, z38E, z38e⟩ : ∃ y : Int32, y.toInt = v21Z + 1 ∧ y = v21 + Int32.ofInt 1 := ⟨_, ti_add v21E (by decide) (by (first | decide +kernel | omega)), rfl⟩
              refine V_iinc 5 [some (.ref 93), some (.ref 0), some (.int c), some (.int o), some (.int n), some (.int z38), none, none] d_Walks_find_153 rfl z38e.symm (by decide) rfl rfl ?_
              refine V_goto 120 d_Walks_find_156 (by decide) ?_
              exact ihL19 z38 ((v21Z + 1)) h35 z38E hI36 f37 (kn_ne eh35 K23 (by decide)) (kn_ne eh35 K24 (by decide)) (by (first | decide +kernel | omega)) (fun i a b => VR_ne (hr7 i a b) eh35 (Or.inl (by (first | decide +kernel | omega))) (by (first | decide +kernel | omega))) (PT_s hp7 (by (first | decide +kernel | omega)) eh35 z32E hx7) (by (first | decide +kernel | omega))
        exact L19 (Int.toNat ((nZ - 1 : Int) + 1)) 1 1 h16 tc_1 hI17 f18 (kn_ne eh16 K8 (by decide)) (kn_ne eh16 K9 (by decide)) (by (first | decide +kernel | omega)) (fun i a b => VR_ne (hr8 i (by (first | decide +kernel | omega)) b) eh16 (Or.inl (by (first | decide +kernel | omega))) (by (first | decide +kernel | omega))) (fun i hi => by rw [eh16, pI_at, if_pos ⟨rfl, by (first | decide +kernel | omega)⟩, show i = 0 by (first | decide +kernel | omega)]; exact cE) (by (first | decide +kernel | omega))
      ·
        refine V_iconst 0 d_Walks_find_11 (by decide) ?_
        refine V_istore 6 [some (.ref 93), some (.ref 0), some (.int c), some (.int o), some (.int n), some (.int v6), some (.int 0), none] d_Walks_find_12 (by decide) rfl rfl ?_
        have L39 : ∀ (nn : Nat) (v41 : Int32) (v41Z : Int) (h42 : Hp), v41.toInt = v41Z → Inv h42 → fr S_Walks_findX h h42 → h42.1 1 0 = w → h42.1 1 1 = g → h42.1 0 3 = p → h42.1 0 4 = m → 0 ≤ v41Z ∧ v41Z ≤ wZ * gZ → (∀ i : Int, v6Z < i → i < nZ → VR (vv9 (svC h pZ mZ oZ) wZ gZ nZ) (wZ * gZ) h42 (95 + i.toNat) 0 (nZ - 1 - i).toNat 16) → VR (vv9 (svC h pZ mZ oZ) wZ gZ nZ) (wZ * gZ) h42 (95 + (v6Z).toNat) 0 (nZ - 1 - v6Z).toNat v41Z → 16 - v41Z < (nn : Int) → V R_Walks b_Walks_find 8 none 4 90 (q_Walks_findX h c cZ o oZ n nZ w wZ g gZ p pZ m mZ) h42 14 [some (.ref 93), some (.ref 0), some (.int c), some (.int o), some (.int n), some (.int v6), some (.int v41), none] [] := by
          intro nn
          induction nn with
          | zero => intro v41 v41Z h42 v41E Ih42 Fh42 K43 K44 K45 K46 q47 q48 q49 hm50; exact absurd hm50 (by (first | decide +kernel | omega))
          | succ nn ihL39 =>
            intro v41 v41Z h42 v41E Ih42 Fh42 K43 K44 K45 K46 q47 q48 q49 hm50
            refine V_iload d_Walks_find_14 rfl ?_
            refine V_aload_n 1 d_Walks_find_16 rfl rfl ?_
            refine V_getR fa_Walks_20 sk_0 rfl d_Walks_find_17 ?_
            refine N_callVI [] [.int v41] cv_Walks_26 sk_1 rfl d_Walks_find_20 rfl (Nat.le_of_ble_eq_true rfl) (by decide) (by decide) (c_Land_cells_0 h42 Ih42 w wZ wE K43 g gZ gE K44) (fun z51 h52 z51Z z51E p53 => ?_)
            obtain ⟨eh52, p53⟩ := p53
            subst eh52
            refine V_icmp_ge 104 v41E z51E d_Walks_find_23 (by decide) (fun c54 => ?_) (fun c54 => ?_)
            ·
              obtain ⟨z55, z55E, z55e⟩ : ∃ y : Int32, y.toInt = v6Z + (-1) ∧ y = v6 + Int32.ofInt (-1) := ⟨_, ti_add v6E (by decide) (by (first | decide +kernel | omega)), rfl⟩
              refine V_iinc 5 [some (.ref 93), some (.ref 0), some (.int c), some (.int o), some (.int n), some (.int z55), some (.int v41), none] d_Walks_find_104 rfl z55e.symm (by decide) rfl rfl ?_
              refine V_goto 6 d_Walks_find_107 (by decide) ?_
              refine V_drop 6 [some (.ref 93), some (.ref 0), some (.int c), some (.int o), some (.int n), some (.int z55), none, none] rfl ?_
              exact ihL4 z55 ((v6Z + (-1))) h42 z55E Ih42 Fh42 K43 K44 K45 K46 (by (first | decide +kernel | omega)) (fun i a b => by by_cases q : i = v6Z; exact (by rw [q]; exact fun c hc hw => (show VR (vv9 (svC h pZ mZ oZ) wZ gZ nZ) (wZ * gZ) h42 (95 + (v6Z).toNat) 0 (nZ - 1 - v6Z).toNat v41Z from by assumption) c (by (first | decide +kernel | omega)) hw); exact (show (∀ i : Int, v6Z < i → i < nZ → VR (vv9 (svC h pZ mZ oZ) wZ gZ nZ) (wZ * gZ) h42 (95 + i.toNat) 0 (nZ - 1 - i).toNat 16) from by assumption) i (by (first | decide +kernel | omega)) b) (by (first | decide +kernel | omega))
            ·
              have hr9 : (∀ i : Int, v6Z < i → i < nZ → VR (vv9 (svC h pZ mZ oZ) wZ gZ nZ) (wZ * gZ) h42 (95 + i.toNat) 0 (nZ - 1 - i).toNat 16) := by assumption
              have hb0 := vv9_b (sv := svC h pZ mZ oZ) (W := wZ) (G := gZ) (n := nZ) (fun c s => svv_b _ _)
              refine V_iload d_Walks_find_26 rfl ?_
              refine V_iload d_Walks_find_28 rfl ?_
              refine V_iconst 1 d_Walks_find_30 (by decide) ?_
              refine V_isub nE tc_1 (by (first | decide +kernel | omega)) d_Walks_find_31 (fun z56 z56e z56E => ?_)
              refine V_icmp_ge 52 v6E z56E d_Walks_find_32 (by decide) (fun c57 => ?_) (fun c57 => ?_)
              ·
                refine V_iconst (-1) d_Walks_find_52 (by decide) ?_
                refine V_istore 7 [some (.ref 93), some (.ref 0), some (.int c), some (.int o), some (.int n), some (.int v6), some (.int v41), some (.int (-1))] d_Walks_find_53 (by decide) rfl rfl ?_
                refine V_aload_n 0 d_Walks_find_55 rfl rfl ?_
                refine V_getR fa_Walks_11 sk_93 rfl d_Walks_find_56 ?_
                refine V_iload d_Walks_find_59 rfl ?_
                refine V_aald (r := (95 + (v6Z).toNat)) sk_94 (by decide) v6E (by (first | decide +kernel | omega)) (gridAt (by (first | decide +kernel | omega))) d_Walks_find_61 ?_
                refine V_iload d_Walks_find_62 rfl ?_
                refine V_aload_n 1 d_Walks_find_64 rfl rfl ?_
                refine V_iload d_Walks_find_65 rfl ?_
                refine V_iload_n 3 d_Walks_find_67 rfl rfl ?_
                refine V_iload d_Walks_find_68 rfl ?_
                refine V_iconst 1 d_Walks_find_70 (by decide) ?_
                refine V_iadd v6E tc_1 (by (first | decide +kernel | omega)) d_Walks_find_71 (fun z58 z58e z58E => ?_)
                refine N_callSI [.ref 0, .int v41, .int o, .int z58] [.int v41, .ref (95 + (v6Z).toNat)] cs_Walks_36 d_Walks_find_72 rfl (Nat.le_of_ble_eq_true rfl) (by decide) (by decide) (c_Walks_shownInX h42 Ih42 v41 v41Z v41E o oZ oE z58 ((v6Z + 1)) z58E p pZ pE K45 m mZ mE K46 (by (first | decide +kernel | omega)) (by (first | decide +kernel | omega)) (fun i hi => by rw [Fh42.1 3 i rfl]; exact hy2 i hi)) (fun z59 h60 z59Z z59E p61 => ?_)
                obtain ⟨eh60, p61⟩ := p61
                subst eh60
                have hsv : z59Z = svC h pZ mZ oZ (v41Z).toNat (v6Z + 1) := z59E.symm.trans (p61.trans (svC_fr Fh42 rfl))
                have hsb := svv_b (twC h pZ mZ (v41Z).toNat oZ (v6Z + 1)) (h.1 2 (v41Z).toNat).toInt
                have hsb2 : -1 ≤ z59Z ∧ z59Z ≤ 2 := by rw [hsv]; exact hsb
                refine V_iload d_Walks_find_75 rfl ?_
                refine V_if_ge 84 tc_m1 d_Walks_find_77 (by decide) (fun c62 => ?_) (fun c62 => ?_)
                ·
                  exact absurd c62 (by decide)
                ·
                  refine V_iconst 0 d_Walks_find_80 (by decide) ?_
                  refine V_goto 96 d_Walks_find_81 (by decide) ?_
                  refine V_iadd z59E tc_0 (by (first | decide +kernel | omega)) d_Walks_find_96 (fun z63 z63e z63E => ?_)
                  have hv9 : (z59Z + 0) = (vv9 (svC h pZ mZ oZ) wZ gZ nZ) (nZ - 1 - v6Z).toNat (v41Z).toNat := by rw [vv9_n (by (first | decide +kernel | omega)), ← hsv]; omega
                  refine N_iast (gridSk (by (first | decide +kernel | omega))) v41E (by (first | decide +kernel | omega)) d_Walks_find_97 (fun h64 eh64 => ?_)
                  have hI65 : Inv h64 := inv_full Ih42 eh64 (gridRg (by (first | decide +kernel | omega)) _)
                  have f66 : fr S_Walks_findX h h64 := fr_put Fh42 eh64 (gridIn (by (first | decide +kernel | omega)) rfl _)
                  obtain ⟨z67, z67E, z67e⟩ : ∃ y : Int32, y.toInt = v41Z + 1 ∧ y = v41 + Int32.ofInt 1 := ⟨_, ti_add v41E (by decide) (by (first | decide +kernel | omega)), rfl⟩
                  refine V_iinc 6 [some (.ref 93), some (.ref 0), some (.int c), some (.int o), some (.int n), some (.int v6), some (.int z67), some (.int (-1))] d_Walks_find_98 rfl z67e.symm (by decide) rfl rfl ?_
                  refine V_goto 14 d_Walks_find_101 (by decide) ?_
                  refine V_drop 7 [some (.ref 93), some (.ref 0), some (.int c), some (.int o), some (.int n), some (.int v6), some (.int z67), none] rfl ?_
                  exact ihL39 z67 ((v41Z + 1)) h64 z67E hI65 f66 (kn_ne eh64 K43 (by (first | decide +kernel | omega))) (kn_ne eh64 K44 (by (first | decide +kernel | omega))) (kn_ne eh64 K45 (by (first | decide +kernel | omega))) (kn_ne eh64 K46 (by (first | decide +kernel | omega))) (by (first | decide +kernel | omega)) (fun i a b => VR_ne (hr9 i a b) eh64 (Or.inl (by (first | decide +kernel | omega))) (by (first | decide +kernel | omega))) (VR_s (by assumption) (by (first | decide +kernel | omega)) eh64 (by (first | decide +kernel | omega)) z63E hv9) (by (first | decide +kernel | omega))
              ·
                refine V_aload_n 0 d_Walks_find_35 rfl rfl ?_
                refine V_aload_n 1 d_Walks_find_36 rfl rfl ?_
                refine V_getR fa_Walks_20 sk_0 rfl d_Walks_find_37 ?_
                refine V_iload d_Walks_find_40 rfl ?_
                refine V_iload d_Walks_find_42 rfl ?_
                refine V_iconst 1 d_Walks_find_44 (by decide) ?_
                refine V_iadd v6E tc_1 (by (first | decide +kernel | omega)) d_Walks_find_45 (fun z68 z68e z68E => ?_)
                refine N_callVI [.ref 1, .int v41, .int z68] [] cv_Walks_32 sk_93 rfl d_Walks_find_46 rfl (Nat.le_of_ble_eq_true rfl) (by decide) (by decide) (c_Walks_bestBesideX h42 Ih42 v41 v41Z v41E z68 ((v6Z + 1)) z68E w wZ wE K43 g gZ gE K44 (by (first | decide +kernel | omega)) (by (first | decide +kernel | omega))) (fun z69 h70 z69Z z69E p71 => ?_)
                obtain ⟨eh70, p71⟩ := p71
                subst eh70
                refine V_goto 53 d_Walks_find_49 (by decide) ?_
                have hto : z69Z = bbN ((vv9 (svC h pZ mZ oZ) wZ gZ nZ) (nZ - 1 - (v6Z + 1)).toNat) wZ gZ v41Z 4 := z69E.symm.trans (p71.trans (bbN_cg (by (first | decide +kernel | omega)) (by (first | decide +kernel | omega)) (by (first | decide +kernel | omega)) (fun i hi => by have q9 := hr9 (v6Z + 1) (by (first | decide +kernel | omega)) (by (first | decide +kernel | omega)) i (by (first | decide +kernel | omega)) hi; rw [Nat.zero_add] at q9; exact q9) 4 (by (first | decide +kernel | omega))))
                have hbt := bbN_4 (f := (vv9 (svC h pZ mZ oZ) wZ gZ nZ) (nZ - 1 - (v6Z + 1)).toNat) (W := wZ) (G := gZ) (c := v41Z) (by (first | decide +kernel | omega)) (by (first | decide +kernel | omega)) (by (first | decide +kernel | omega))
                refine V_istore 7 [some (.ref 93), some (.ref 0), some (.int c), some (.int o), some (.int n), some (.int v6), some (.int v41), some (.int z69)] d_Walks_find_53 (by decide) rfl rfl ?_
                refine V_aload_n 0 d_Walks_find_55 rfl rfl ?_
                refine V_getR fa_Walks_11 sk_93 rfl d_Walks_find_56 ?_
                refine V_iload d_Walks_find_59 rfl ?_
                refine V_aald (r := (95 + (v6Z).toNat)) sk_94 (by decide) v6E (by (first | decide +kernel | omega)) (gridAt (by (first | decide +kernel | omega))) d_Walks_find_61 ?_
                refine V_iload d_Walks_find_62 rfl ?_
                refine V_aload_n 1 d_Walks_find_64 rfl rfl ?_
                refine V_iload d_Walks_find_65 rfl ?_
                refine V_iload_n 3 d_Walks_find_67 rfl rfl ?_
                refine V_iload d_Walks_find_68 rfl ?_
                refine V_iconst 1 d_Walks_find_70 (by decide) ?_
                refine V_iadd v6E tc_1 (by (first | decide +kernel | omega)) d_Walks_find_71 (fun z72 z72e z72E => ?_)
                refine N_callSI [.ref 0, .int v41, .int o, .int z72] [.int v41, .ref (95 + (v6Z).toNat)] cs_Walks_36 d_Walks_find_72 rfl (Nat.le_of_ble_eq_true rfl) (by decide) (by decide) (c_Walks_shownInX h42 Ih42 v41 v41Z v41E o oZ oE z72 ((v6Z + 1)) z72E p pZ pE K45 m mZ mE K46 (by (first | decide +kernel | omega)) (by (first | decide +kernel | omega)) (fun i hi => by rw [Fh42.1 3 i rfl]; exact hy2 i hi)) (fun z73 h74 z73Z z73E p75 => ?_)
                obtain ⟨eh74, p75⟩ := p75
                subst eh74
                have hsv : z73Z = svC h pZ mZ oZ (v41Z).toNat (v6Z + 1) := z73E.symm.trans (p75.trans (svC_fr Fh42 rfl))
                have hsb := svv_b (twC h pZ mZ (v41Z).toNat oZ (v6Z + 1)) (h.1 2 (v41Z).toNat).toInt
                have hsb2 : -1 ≤ z73Z ∧ z73Z ≤ 2 := by rw [hsv]; exact hsb
                refine V_iload d_Walks_find_75 rfl ?_
                refine V_if_ge 84 z69E d_Walks_find_77 (by decide) (fun c76 => ?_) (fun c76 => ?_)
                ·
                  refine V_aload_n 0 d_Walks_find_84 rfl rfl ?_
                  refine V_getR fa_Walks_11 sk_93 rfl d_Walks_find_85 ?_
                  refine V_iload d_Walks_find_88 rfl ?_
                  refine V_iconst 1 d_Walks_find_90 (by decide) ?_
                  refine V_iadd v6E tc_1 (by (first | decide +kernel | omega)) d_Walks_find_91 (fun z77 z77e z77E => ?_)
                  refine V_aald (r := (95 + ((v6Z + 1)).toNat)) sk_94 (by decide) z77E (by (first | decide +kernel | omega)) (gridAt (by (first | decide +kernel | omega))) d_Walks_find_92 ?_
                  refine V_iload d_Walks_find_93 rfl ?_
                  refine N_iald (gridSk (by (first | decide +kernel | omega))) z69E (by (first | decide +kernel | omega)) d_Walks_find_95 (fun z78 z78Z z78E z78e => ?_)
                  have hx0 : z78Z = (vv9 (svC h pZ mZ oZ) wZ gZ nZ) (nZ - 1 - (v6Z + 1)).toNat (z69Z).toNat := by have q9 := hr9 (v6Z + 1) (by (first | decide +kernel | omega)) (by (first | decide +kernel | omega)) (z69Z).toNat (by (first | decide +kernel | omega)) (by (first | decide +kernel | omega)); rw [Nat.zero_add] at q9; rw [← z78E, z78e]; exact q9
                  have hxb := hb0 (nZ - 1 - (v6Z + 1)).toNat (z69Z).toNat
                  rw [← hx0] at hxb
                  refine V_iadd z73E z78E (by (first | decide +kernel | omega)) d_Walks_find_96 (fun z79 z79e z79E => ?_)
                  have hv9 : (z73Z + z78Z) = (vv9 (svC h pZ mZ oZ) wZ gZ nZ) (nZ - 1 - v6Z).toNat (v41Z).toNat := by rw [vv9_s (by (first | decide +kernel | omega)) (by (first | decide +kernel | omega)) (by (first | decide +kernel | omega)), ← hto, ← hx0, ← hsv]
                  refine N_iast (gridSk (by (first | decide +kernel | omega))) v41E (by (first | decide +kernel | omega)) d_Walks_find_97 (fun h80 eh80 => ?_)
                  have hI81 : Inv h80 := inv_full Ih42 eh80 (gridRg (by (first | decide +kernel | omega)) _)
                  have f82 : fr S_Walks_findX h h80 := fr_put Fh42 eh80 (gridIn (by (first | decide +kernel | omega)) rfl _)
                  obtain ⟨z83, z83E, z83e⟩ : ∃ y : Int32, y.toInt = v41Z + 1 ∧ y = v41 + Int32.ofInt 1 := ⟨_, ti_add v41E (by decide) (by (first | decide +kernel | omega)), rfl⟩
                  refine V_iinc 6 [some (.ref 93), some (.ref 0), some (.int c), some (.int o), some (.int n), some (.int v6), some (.int z83), some (.int z69)] d_Walks_find_98 rfl z83e.symm (by decide) rfl rfl ?_
                  refine V_goto 14 d_Walks_find_101 (by decide) ?_
                  refine V_drop 7 [some (.ref 93), some (.ref 0), some (.int c), some (.int o), some (.int n), some (.int v6), some (.int z83), none] rfl ?_
                  exact ihL39 z83 ((v41Z + 1)) h80 z83E hI81 f82 (kn_ne eh80 K43 (by (first | decide +kernel | omega))) (kn_ne eh80 K44 (by (first | decide +kernel | omega))) (kn_ne eh80 K45 (by (first | decide +kernel | omega))) (kn_ne eh80 K46 (by (first | decide +kernel | omega))) (by (first | decide +kernel | omega)) (fun i a b => VR_ne (hr9 i a b) eh80 (Or.inl (by (first | decide +kernel | omega))) (by (first | decide +kernel | omega))) (VR_s (by assumption) (by (first | decide +kernel | omega)) eh80 (by (first | decide +kernel | omega)) z79E hv9) (by (first | decide +kernel | omega))
                ·
                  refine V_iconst 0 d_Walks_find_80 (by decide) ?_
                  refine V_goto 96 d_Walks_find_81 (by decide) ?_
                  refine V_iadd z73E tc_0 (by (first | decide +kernel | omega)) d_Walks_find_96 (fun z84 z84e z84E => ?_)
                  have hv9 : (z73Z + 0) = (vv9 (svC h pZ mZ oZ) wZ gZ nZ) (nZ - 1 - v6Z).toNat (v41Z).toNat := by rw [vv9_n (by (first | decide +kernel | omega)), ← hsv]; omega
                  refine N_iast (gridSk (by (first | decide +kernel | omega))) v41E (by (first | decide +kernel | omega)) d_Walks_find_97 (fun h85 eh85 => ?_)
                  have hI86 : Inv h85 := inv_full Ih42 eh85 (gridRg (by (first | decide +kernel | omega)) _)
                  have f87 : fr S_Walks_findX h h85 := fr_put Fh42 eh85 (gridIn (by (first | decide +kernel | omega)) rfl _)
                  obtain ⟨z88, z88E, z88e⟩ : ∃ y : Int32, y.toInt = v41Z + 1 ∧ y = v41 + Int32.ofInt 1 := ⟨_, ti_add v41E (by decide) (by (first | decide +kernel | omega)), rfl⟩
                  refine V_iinc 6 [some (.ref 93), some (.ref 0), some (.int c), some (.int o), some (.int n), some (.int v6), some (.int z88), some (.int z69)] d_Walks_find_98 rfl z88e.symm (by decide) rfl rfl ?_
                  refine V_goto 14 d_Walks_find_101 (by decide) ?_
                  refine V_drop 7 [some (.ref 93), some (.ref 0), some (.int c), some (.int o), some (.int n), some (.int v6), some (.int z88), none] rfl ?_
                  exact ihL39 z88 ((v41Z + 1)) h85 z88E hI86 f87 (kn_ne eh85 K43 (by (first | decide +kernel | omega))) (kn_ne eh85 K44 (by (first | decide +kernel | omega))) (kn_ne eh85 K45 (by (first | decide +kernel | omega))) (kn_ne eh85 K46 (by (first | decide +kernel | omega))) (by (first | decide +kernel | omega)) (fun i a b => VR_ne (hr9 i a b) eh85 (Or.inl (by (first | decide +kernel | omega))) (by (first | decide +kernel | omega))) (VR_s (by assumption) (by (first | decide +kernel | omega)) eh85 (by (first | decide +kernel | omega)) z84E hv9) (by (first | decide +kernel | omega))
        exact L39 (Int.toNat ((16 - 0 : Int) + 1)) 0 0 h7 tc_0 Ih7 Fh7 K8 K9 K10 K11 (by (first | decide +kernel | omega)) (by assumption) VR_0 (by (first | decide +kernel | omega))
  exact L4 (Int.toNat (((nZ - 1) + 1 : Int) + 1)) z3 ((nZ - 1)) h z3E hI f0 wK gK pK mK (by (first | decide +kernel | omega)) (fun i a b => by (first | decide +kernel | omega)) (by (first | decide +kernel | omega))
abbrev q_Walks_mostX (h : Hp) (c : Int32) (cZ : Int) : Option Value → Hp → Prop := pInt (fun r h' => h = h' ∧ (r.toInt = 10 + (h.1 95 cZ.toNat).toInt))
set_option maxRecDepth 100000 in
theorem c_Walks_mostX (h : Hp) (hI : Inv h) (c : Int32) (cZ : Int) (cE : c.toInt = cZ) (hy0 : 0 ≤ cZ ∧ cZ ≤ 15) (hy1 : -100 ≤ (h.1 95 cZ.toNat).toInt ∧ (h.1 95 cZ.toNat).toInt ≤ 100) : Ct y_Walks_most b_Walks_most 2 (some .int) 0 0 [.ref 93, .int c] h (q_Walks_mostX h c cZ) := by
  refine ct_ow R_Walks [some (.ref 93), some (.int c)] rfl (by decide) rfl (Nat.le_of_ble_eq_true rfl) ?_
  have f0 : fr [] h h := fr_rf
  obtain ⟨uv, uvZ, uvE, uvK⟩ : ∃ (y : Int32) (Y : Int), y.toInt = Y ∧ h.1 95 (cZ).toNat = y := ⟨_, _, rfl, rfl⟩
  rw [uvK, uvE] at hy1
  refine V_bipush 10 d_Walks_most_0 (by decide) ?_
  refine V_aload_n 0 d_Walks_most_2 rfl rfl ?_
  refine V_getR fa_Walks_11 sk_93 rfl d_Walks_most_3 ?_
  refine V_iconst 0 d_Walks_most_6 (by decide) ?_
  refine V_aald (r := 95) sk_94 (by decide) tc_0 (by (first | decide +kernel | omega)) rfl d_Walks_most_7 ?_
  refine V_iload_n 1 d_Walks_most_8 rfl rfl ?_
  refine N_ialdK sk_95 cE (by (first | decide +kernel | omega)) d_Walks_most_9 uvK ?_
  refine V_iadd tc_10 uvE (by (first | decide +kernel | omega)) d_Walks_most_10 (fun z2 z2e z2E => ?_)
  exact V_iret rfl d_Walks_most_11 ⟨z2, rfl, ⟨rfl, (by rw [uvK, uvE, z2E])⟩⟩
def S_Rod_showX : List (Nat × Option Nat) := [(95, none), (96, none), (97, none), (98, none), (99, none), (100, none), (101, none)]
abbrev q_Rod_showX (h : Hp) (c : Int32) (cZ : Int) (o : Int32) (oZ : Int) (n : Int32) (nZ : Int) (a : Int32) (aZ : Int) (w : Int32) (wZ : Int) (g : Int32) (gZ : Int) (p : Int32) (pZ : Int) (m : Int32) (mZ : Int) : Option Value → Hp → Prop := pInt (fun r h' => Inv h' ∧ fr S_Rod_showX h h' ∧ (TSa ((0 ≤ cZ ∧ cZ < wZ * gZ) ∧ (0 ≤ oZ ∧ oZ ≤ 3) ∧ (1 ≤ nZ ∧ nZ ≤ 6) ∧ (aZ = 0 ∨ 10 ≤ aZ ∧ aZ - 10 < nZ)) r (SWr (vv9 (svC h pZ mZ oZ) wZ gZ nZ) wZ gZ nZ cZ aZ)))
set_option maxRecDepth 100000 in
theorem c_Rod_showX (h : Hp) (hI : Inv h) (c : Int32) (cZ : Int) (cE : c.toInt = cZ) (o : Int32) (oZ : Int) (oE : o.toInt = oZ) (n : Int32) (nZ : Int) (nE : n.toInt = nZ) (a : Int32) (aZ : Int) (aE : a.toInt = aZ) (w : Int32) (wZ : Int) (wE : w.toInt = wZ) (wK : h.1 1 0 = w) (g : Int32) (gZ : Int) (gE : g.toInt = gZ) (gK : h.1 1 1 = g) (p : Int32) (pZ : Int) (pE : p.toInt = pZ) (pK : h.1 0 3 = p) (m : Int32) (mZ : Int) (mE : m.toInt = mZ) (mK : h.1 0 4 = m) (hy0 : ∀ i : Nat, i < 16 → 0 ≤ (h.1 3 i).toInt ∧ (h.1 3 i).toInt ≤ 1) : Ct y_Rod_show b_Rod_show 5 (some .int) 5 117 [.ref 85, .int c, .int o, .int n, .int a] h (q_Rod_showX h c cZ o oZ n nZ a aZ w wZ g gZ p pZ m mZ) := by
  refine ct_ow R_Rod [some (.ref 85), some (.int c), some (.int o), some (.int n), some (.int a)] rfl (by decide) rfl (Nat.le_of_ble_eq_true rfl) ?_
  have f0 : fr S_Rod_showX h h := fr_rf
  have g1 : 2 ≤ wZ ∧ wZ ≤ 4 := inv_at hI wE wK.symm rfl
  have g2 : 2 ≤ gZ ∧ gZ ≤ 4 := inv_at hI gE gK.symm rfl
  have aB := And.intro (ti_lo a) (ti_hi a)
  rw [aE] at aB
  have m24 := mul24 (A := wZ) (B := gZ) (by (first | decide +kernel | omega)) (by (first | decide +kernel | omega))
  refine V_aload_n 0 d_Rod_show_0 rfl rfl ?_
  refine V_getR fa_Rod_12 sk_85 rfl d_Rod_show_1 ?_
  refine V_getR fa_Rod_91 sk_0 rfl d_Rod_show_4 ?_
  refine V_iload_n 1 d_Rod_show_7 rfl rfl ?_
  refine N_callVI [.int c] [] cv_Rod_124 sk_1 rfl d_Rod_show_8 rfl (Nat.le_of_ble_eq_true rfl) (by decide) (by decide) (c_Land_hasX_0 h hI c cZ cE w wZ wE wK g gZ gE gK) (fun z3 h4 z3Z z3E p5 => ?_)
  obtain ⟨eh4, p5⟩ := p5
  subst eh4
  refine V_if_eq 32 z3E d_Rod_show_11 (by decide) (fun c6 => ?_) (fun c6 => ?_)
  ·
    refine V_iconst (-1) d_Rod_show_32 (by decide) ?_
    exact V_iret rfl d_Rod_show_33 ⟨(-1), rfl, ⟨hI, f0, (Or.inr ⟨by (first | decide +kernel | omega), tc_m1⟩)⟩⟩
  ·
    refine V_iload_n 2 d_Rod_show_14 rfl rfl ?_
    refine N_callSI [.int o] [] cs_Rod_151 d_Rod_show_15 rfl (Nat.le_of_ble_eq_true rfl) (by decide) (by decide) (c_Rod_isOwner h o oZ oE) (fun z7 h8 z7Z z7E p9 => ?_)
    obtain ⟨eh8, p9⟩ := p9
    subst eh8
    refine V_if_eq 32 z7E d_Rod_show_18 (by decide) (fun c10 => ?_) (fun c10 => ?_)
    ·
      refine V_iconst (-1) d_Rod_show_32 (by decide) ?_
      exact V_iret rfl d_Rod_show_33 ⟨(-1), rfl, ⟨hI, f0, (Or.inr ⟨by (first | decide +kernel | omega), tc_m1⟩)⟩⟩
    ·
      refine V_iload_n 3 d_Rod_show_21 rfl rfl ?_
      refine V_iconst 1 d_Rod_show_22 (by decide) ?_
      refine V_icmp_lt 32 nE tc_1 d_Rod_show_23 (by decide) (fun c11 => ?_) (fun c11 => ?_)
      ·
        refine V_iconst (-1) d_Rod_show_32 (by decide) ?_
        exact V_iret rfl d_Rod_show_33 ⟨(-1), rfl, ⟨hI, f0, (Or.inr ⟨by (first | decide +kernel | omega), tc_m1⟩)⟩⟩
      ·
        refine V_iload_n 3 d_Rod_show_26 rfl rfl ?_
        refine V_bipush 6 d_Rod_show_27 (by decide) ?_
        refine V_icmp_le 34 nE tc_6 d_Rod_show_29 (by decide) (fun c12 => ?_) (fun c12 => ?_)
        ·
          refine V_iload d_Rod_show_34 rfl ?_
          refine V_if_eq 57 aE d_Rod_show_36 (by decide) (fun c13 => ?_) (fun c13 => ?_)
          ·
            refine V_aload_n 0 d_Rod_show_57 rfl rfl ?_
            refine V_getR fa_Rod_42 sk_85 rfl d_Rod_show_58 ?_
            refine V_aload_n 0 d_Rod_show_61 rfl rfl ?_
            refine V_getR fa_Rod_12 sk_85 rfl d_Rod_show_62 ?_
            refine V_iload_n 1 d_Rod_show_65 rfl rfl ?_
            refine V_iload_n 2 d_Rod_show_66 rfl rfl ?_
            refine V_iload_n 3 d_Rod_show_67 rfl rfl ?_
            refine N_callVV [.ref 0, .int c, .int o, .int n] [] cv_Rod_217 sk_93 rfl d_Rod_show_68 rfl (Nat.le_of_ble_eq_true rfl) (by decide) (by decide) (c_Walks_findX h hI c cZ cE o oZ oE n nZ nE w wZ wE wK g gZ gE gK p pZ pE pK m mZ mE mK (by (first | decide +kernel | omega)) (by (first | decide +kernel | omega)) hy0) (fun h15 p16 => ?_)
            obtain ⟨hI17, fh15, p16⟩ := p16
            have f18 : fr S_Rod_showX h h15 := fr_call f0 fh15 rfl
            have hvb := vv9_b (sv := svC h pZ mZ oZ) (W := wZ) (G := gZ) (n := nZ) (fun c s => svv_b _ _) (nZ - 1).toNat cZ.toNat
            have h95 : (h15.1 95 cZ.toNat).toInt = (vv9 (svC h pZ mZ oZ) wZ gZ nZ) (nZ - 1).toNat cZ.toNat := by have q9 := p16.1 0 (by (first | decide +kernel | omega)) (by (first | decide +kernel | omega)) cZ.toNat (by (first | decide +kernel | omega)) (by (first | decide +kernel | omega)); rw [Nat.zero_add, show nZ - 1 - 0 = nZ - 1 by (first | decide +kernel | omega)] at q9; exact q9
            refine V_iload d_Rod_show_71 rfl ?_
            refine V_if_ne 87 aE d_Rod_show_73 (by decide) (fun c19 => ?_) (fun c19 => ?_)
            ·
              refine V_aload_n 0 d_Rod_show_87 rfl rfl ?_
              refine V_getR fa_Rod_42 sk_85 rfl d_Rod_show_88 ?_
              refine V_getR fa_Rod_224 sk_93 rfl d_Rod_show_91 ?_
              refine V_iload d_Rod_show_94 rfl ?_
              refine V_bipush 10 d_Rod_show_96 (by decide) ?_
              refine V_isub aE tc_10 (by (first | decide +kernel | omega)) d_Rod_show_98 (fun z20 z20e z20E => ?_)
              refine N_iald sk_101 z20E (by (first | decide +kernel | omega)) d_Rod_show_99 (fun z21 z21Z z21E z21e => ?_)
              exact V_iret rfl d_Rod_show_100 ⟨z21, rfl, ⟨hI17, f18, (Or.inl ⟨by (first | decide +kernel | omega), by unfold SWr; rw [if_neg (by (first | decide +kernel | omega)), z21e]; exact p16.2 _ (by (first | decide +kernel | omega))⟩)⟩⟩
            ·
              refine V_aload_n 0 d_Rod_show_76 rfl rfl ?_
              refine V_getR fa_Rod_42 sk_85 rfl d_Rod_show_77 ?_
              refine V_iload_n 1 d_Rod_show_80 rfl rfl ?_
              refine N_callVI [.int c] [] cv_Rod_221 sk_93 rfl d_Rod_show_81 rfl (Nat.le_of_ble_eq_true rfl) (by decide) (by decide) (c_Walks_mostX h15 hI17 c cZ cE (by (first | decide +kernel | omega)) (by rw [h95]; omega)) (fun z22 h23 z22Z z22E p24 => ?_)
              obtain ⟨eh23, p24⟩ := p24
              subst eh23
              refine V_goto 100 d_Rod_show_84 (by decide) ?_
              exact V_iret rfl d_Rod_show_100 ⟨z22, rfl, ⟨hI17, f18, (Or.inl ⟨by (first | decide +kernel | omega), by unfold SWr; rw [if_pos (by (first | decide +kernel | omega)), p24, h95]⟩)⟩⟩
          ·
            refine V_iload d_Rod_show_39 rfl ?_
            refine V_bipush 10 d_Rod_show_41 (by decide) ?_
            refine V_icmp_lt 55 aE tc_10 d_Rod_show_43 (by decide) (fun c25 => ?_) (fun c25 => ?_)
            ·
              refine V_iconst (-1) d_Rod_show_55 (by decide) ?_
              exact V_iret rfl d_Rod_show_56 ⟨(-1), rfl, ⟨hI, f0, (Or.inr ⟨by (first | decide +kernel | omega), tc_m1⟩)⟩⟩
            ·
              refine V_iload d_Rod_show_46 rfl ?_
              refine V_bipush 10 d_Rod_show_48 (by decide) ?_
              refine V_isub aE tc_10 (by (first | decide +kernel | omega)) d_Rod_show_50 (fun z26 z26e z26E => ?_)
              refine V_iload_n 3 d_Rod_show_51 rfl rfl ?_
              refine V_icmp_lt 57 z26E nE d_Rod_show_52 (by decide) (fun c27 => ?_) (fun c27 => ?_)
              ·
                refine V_aload_n 0 d_Rod_show_57 rfl rfl ?_
                refine V_getR fa_Rod_42 sk_85 rfl d_Rod_show_58 ?_
                refine V_aload_n 0 d_Rod_show_61 rfl rfl ?_
                refine V_getR fa_Rod_12 sk_85 rfl d_Rod_show_62 ?_
                refine V_iload_n 1 d_Rod_show_65 rfl rfl ?_
                refine V_iload_n 2 d_Rod_show_66 rfl rfl ?_
                refine V_iload_n 3 d_Rod_show_67 rfl rfl ?_
                refine N_callVV [.ref 0, .int c, .int o, .int n] [] cv_Rod_217 sk_93 rfl d_Rod_show_68 rfl (Nat.le_of_ble_eq_true rfl) (by decide) (by decide) (c_Walks_findX h hI c cZ cE o oZ oE n nZ nE w wZ wE wK g gZ gE gK p pZ pE pK m mZ mE mK (by (first | decide +kernel | omega)) (by (first | decide +kernel | omega)) hy0) (fun h29 p30 => ?_)
                obtain ⟨hI31, fh29, p30⟩ := p30
                have f32 : fr S_Rod_showX h h29 := fr_call f0 fh29 rfl
                have hvb := vv9_b (sv := svC h pZ mZ oZ) (W := wZ) (G := gZ) (n := nZ) (fun c s => svv_b _ _) (nZ - 1).toNat cZ.toNat
                have h95 : (h29.1 95 cZ.toNat).toInt = (vv9 (svC h pZ mZ oZ) wZ gZ nZ) (nZ - 1).toNat cZ.toNat := by have q9 := p30.1 0 (by (first | decide +kernel | omega)) (by (first | decide +kernel | omega)) cZ.toNat (by (first | decide +kernel | omega)) (by (first | decide +kernel | omega)); rw [Nat.zero_add, show nZ - 1 - 0 = nZ - 1 by (first | decide +kernel | omega)] at q9; exact q9
                refine V_iload d_Rod_show_71 rfl ?_
                refine V_if_ne 87 aE d_Rod_show_73 (by decide) (fun c33 => ?_) (fun c33 => ?_)
                ·
                  refine V_aload_n 0 d_Rod_show_87 rfl rfl ?_
                  refine V_getR fa_Rod_42 sk_85 rfl d_Rod_show_88 ?_
                  refine V_getR fa_Rod_224 sk_93 rfl d_Rod_show_91 ?_
                  refine V_iload d_Rod_show_94 rfl ?_
                  refine V_bipush 10 d_Rod_show_96 (by decide) ?_
                  refine V_isub aE tc_10 (by (first | decide +kernel | omega)) d_Rod_show_98 (fun z34 z34e z34E => ?_)
                  refine N_iald sk_101 z34E (by (first | decide +kernel | omega)) d_Rod_show_99 (fun z35 z35Z z35E z35e => ?_)
                  exact V_iret rfl d_Rod_show_100 ⟨z35, rfl, ⟨hI31, f32, (Or.inl ⟨by (first | decide +kernel | omega), by unfold SWr; rw [if_neg (by (first | decide +kernel | omega)), z35e]; exact p30.2 _ (by (first | decide +kernel | omega))⟩)⟩⟩
                ·
                  refine V_aload_n 0 d_Rod_show_76 rfl rfl ?_
                  refine V_getR fa_Rod_42 sk_85 rfl d_Rod_show_77 ?_
                  refine V_iload_n 1 d_Rod_show_80 rfl rfl ?_
                  refine N_callVI [.int c] [] cv_Rod_221 sk_93 rfl d_Rod_show_81 rfl (Nat.le_of_ble_eq_true rfl) (by decide) (by decide) (c_Walks_mostX h29 hI31 c cZ cE (by (first | decide +kernel | omega)) (by rw [h95]; omega)) (fun z36 h37 z36Z z36E p38 => ?_)
                  obtain ⟨eh37, p38⟩ := p38
                  subst eh37
                  refine V_goto 100 d_Rod_show_84 (by decide) ?_
                  exact V_iret rfl d_Rod_show_100 ⟨z36, rfl, ⟨hI31, f32, (Or.inl ⟨by (first | decide +kernel | omega), by unfold SWr; rw [if_pos (by (first | decide +kernel | omega)), p38, h95]⟩)⟩⟩
              ·
                refine V_iconst (-1) d_Rod_show_55 (by decide) ?_
                exact V_iret rfl d_Rod_show_56 ⟨(-1), rfl, ⟨hI, f0, (Or.inr ⟨by (first | decide +kernel | omega), tc_m1⟩)⟩⟩
        ·
          refine V_iconst (-1) d_Rod_show_32 (by decide) ?_
          exact V_iret rfl d_Rod_show_33 ⟨(-1), rfl, ⟨hI, f0, (Or.inr ⟨by (first | decide +kernel | omega), tc_m1⟩)⟩⟩
def S_Mod_findShownX : List (Nat × Option Nat) := [(122, none)]
abbrev q_Mod_findShownX (h : Hp) (o : Int32) (oZ : Int) (n : Int32) (nZ : Int) (w : Int32) (wZ : Int) (g : Int32) (gZ : Int) (p : Int32) (pZ : Int) (m : Int32) (mZ : Int) : Option Value → Hp → Prop := pVd (fun h' => Inv h' ∧ fr S_Mod_findShownX h h' ∧ (∀ i : Int, 1 ≤ i → i ≤ nZ → VR (vv9 (svM h pZ mZ oZ) wZ gZ nZ) (wZ * gZ) h' 122 (16 * i.toNat) (nZ - i).toNat 16))
set_option maxRecDepth 100000 in
theorem c_Mod_findShownX (h : Hp) (hI : Inv h) (o : Int32) (oZ : Int) (oE : o.toInt = oZ) (n : Int32) (nZ : Int) (nE : n.toInt = nZ) (w : Int32) (wZ : Int) (wE : w.toInt = wZ) (wK : h.1 116 2 = w) (g : Int32) (gZ : Int) (gE : g.toInt = gZ) (gK : h.1 116 3 = g) (p : Int32) (pZ : Int) (pE : p.toInt = pZ) (pK : h.1 117 84 = p) (m : Int32) (mZ : Int) (mE : m.toInt = mZ) (mK : h.1 117 85 = m) (hy0 : 1 ≤ nZ ∧ nZ ≤ 6) : Ct y_Mod_findShown b_Mod_findShown 6 none 3 68 [.ref 116, .int o, .int n] h (q_Mod_findShownX h o oZ n nZ w wZ g gZ p pZ m mZ) := by
  refine ct_ow R_Mod [some (.ref 116), some (.int o), some (.int n), none, none, none] rfl (by decide) rfl (Nat.le_of_ble_eq_true rfl) ?_
  have f0 : fr S_Mod_findShownX h h := fr_rf
  have g1 : 2 ≤ wZ ∧ wZ ≤ 4 := inv_at hI wE wK.symm rfl
  have g2 : 2 ≤ gZ ∧ gZ ≤ 4 := inv_at hI gE gK.symm rfl
  have m24 := mul24 (A := wZ) (B := gZ) (by (first | decide +kernel | omega)) (by (first | decide +kernel | omega))
  refine V_iload_n 2 d_Mod_findShown_0 rfl rfl ?_
  refine V_istore_n 3 [some (.ref 116), some (.int o), some (.int n), some (.int n), none, none] d_Mod_findShown_1 rfl (by decide) rfl rfl ?_
  have L3 : ∀ (nn : Nat) (v5 : Int32) (v5Z : Int) (h6 : Hp), v5.toInt = v5Z → Inv h6 → fr S_Mod_findShownX h h6 → h6.1 116 2 = w → h6.1 116 3 = g → h6.1 117 84 = p → h6.1 117 85 = m → 0 ≤ v5Z ∧ v5Z ≤ nZ → (∀ i : Int, v5Z < i → i ≤ nZ → VR (vv9 (svM h pZ mZ oZ) wZ gZ nZ) (wZ * gZ) h6 122 (16 * i.toNat) (nZ - i).toNat 16) → v5Z < (nn : Int) → V R_Mod b_Mod_findShown 6 none 3 68 (q_Mod_findShownX h o oZ n nZ w wZ g gZ p pZ m mZ) h6 2 [some (.ref 116), some (.int o), some (.int n), some (.int v5), none, none] [] := by
    intro nn
    induction nn with
    | zero => intro v5 v5Z h6 v5E Ih6 Fh6 K7 K8 K9 K10 q11 q12 hm13; exact absurd hm13 (by (first | decide +kernel | omega))
    | succ nn ihL3 =>
      intro v5 v5Z h6 v5E Ih6 Fh6 K7 K8 K9 K10 q11 q12 hm13
      refine V_iload_n 3 d_Mod_findShown_2 rfl rfl ?_
      refine V_iconst 1 d_Mod_findShown_3 (by decide) ?_
      refine V_icmp_lt 86 v5E tc_1 d_Mod_findShown_4 (by decide) (fun c14 => ?_) (fun c14 => ?_)
      ·
        exact V_vret rfl d_Mod_findShown_86 ⟨rfl, ⟨Ih6, Fh6, (fun i a b => (show (∀ i : Int, v5Z < i → i ≤ nZ → VR (vv9 (svM h pZ mZ oZ) wZ gZ nZ) (wZ * gZ) h6 122 (16 * i.toNat) (nZ - i).toNat 16) from by assumption) i (by (first | decide +kernel | omega)) b)⟩⟩
      ·
        refine V_iconst 0 d_Mod_findShown_7 (by decide) ?_
        refine V_istore 4 [some (.ref 116), some (.int o), some (.int n), some (.int v5), some (.int 0), none] d_Mod_findShown_8 (by decide) rfl rfl ?_
        have L15 : ∀ (nn : Nat) (v17 : Int32) (v17Z : Int) (h18 : Hp), v17.toInt = v17Z → Inv h18 → fr S_Mod_findShownX h h18 → h18.1 116 2 = w → h18.1 116 3 = g → h18.1 117 84 = p → h18.1 117 85 = m → 0 ≤ v17Z ∧ v17Z ≤ wZ * gZ → (∀ i : Int, v5Z < i → i ≤ nZ → VR (vv9 (svM h pZ mZ oZ) wZ gZ nZ) (wZ * gZ) h18 122 (16 * i.toNat) (nZ - i).toNat 16) → VR (vv9 (svM h pZ mZ oZ) wZ gZ nZ) (wZ * gZ) h18 122 (16 * (v5Z).toNat) (nZ - v5Z).toNat v17Z → 16 - v17Z < (nn : Int) → V R_Mod b_Mod_findShown 6 none 3 68 (q_Mod_findShownX h o oZ n nZ w wZ g gZ p pZ m mZ) h18 10 [some (.ref 116), some (.int o), some (.int n), some (.int v5), some (.int v17), none] [] := by
          intro nn
          induction nn with
          | zero => intro v17 v17Z h18 v17E Ih18 Fh18 K19 K20 K21 K22 q23 q24 q25 hm26; exact absurd hm26 (by (first | decide +kernel | omega))
          | succ nn ihL15 =>
            intro v17 v17Z h18 v17E Ih18 Fh18 K19 K20 K21 K22 q23 q24 q25 hm26
            refine V_iload d_Mod_findShown_10 rfl ?_
            refine V_aload_n 0 d_Mod_findShown_12 rfl rfl ?_
            refine N_callVI [] [.int v17] cv_Mod_183 sk_116 rfl d_Mod_findShown_13 rfl (Nat.le_of_ble_eq_true rfl) (by decide) (by decide) (c_Mod_cellMany h18 Ih18 w wZ wE K19 g gZ gE K20) (fun z27 h28 z27Z z27E p29 => ?_)
            obtain ⟨eh28, p29⟩ := p29
            subst eh28
            refine V_icmp_ge 80 v17E z27E d_Mod_findShown_16 (by decide) (fun c30 => ?_) (fun c30 => ?_)
            ·
              obtain ⟨z31, z31E, z31e⟩ : ∃ y : Int32, y.toInt = v5Z + (-1) ∧ y = v5 + Int32.ofInt (-1) := ⟨_, ti_add v5E (by decide) (by (first | decide +kernel | omega)), rfl⟩
              refine V_iinc 3 [some (.ref 116), some (.int o), some (.int n), some (.int z31), some (.int v17), none] d_Mod_findShown_80 rfl z31e.symm (by decide) rfl rfl ?_
              refine V_goto 2 d_Mod_findShown_83 (by decide) ?_
              refine V_drop 4 [some (.ref 116), some (.int o), some (.int n), some (.int z31), none, none] rfl ?_
              exact ihL3 z31 ((v5Z + (-1))) h18 z31E Ih18 Fh18 K19 K20 K21 K22 (by (first | decide +kernel | omega)) (fun i a b => by by_cases q : i = v5Z; exact (by rw [q]; exact fun c hc hw => (show VR (vv9 (svM h pZ mZ oZ) wZ gZ nZ) (wZ * gZ) h18 122 (16 * (v5Z).toNat) (nZ - v5Z).toNat v17Z from by assumption) c (by (first | decide +kernel | omega)) hw); exact (show (∀ i : Int, v5Z < i → i ≤ nZ → VR (vv9 (svM h pZ mZ oZ) wZ gZ nZ) (wZ * gZ) h18 122 (16 * i.toNat) (nZ - i).toNat 16) from by assumption) i (by (first | decide +kernel | omega)) b) (by (first | decide +kernel | omega))
            ·
              have hr9 : (∀ i : Int, v5Z < i → i ≤ nZ → VR (vv9 (svM h pZ mZ oZ) wZ gZ nZ) (wZ * gZ) h18 122 (16 * i.toNat) (nZ - i).toNat 16) := by assumption
              have hb0 := vv9_b (sv := svM h pZ mZ oZ) (W := wZ) (G := gZ) (n := nZ) (fun c s => svv_b _ _)
              refine V_iload_n 3 d_Mod_findShown_19 rfl rfl ?_
              refine V_iload_n 2 d_Mod_findShown_20 rfl rfl ?_
              refine V_icmp_ne 28 v5E nE d_Mod_findShown_21 (by decide) (fun c32 => ?_) (fun c32 => ?_)
              ·
                refine V_aload_n 0 d_Mod_findShown_28 rfl rfl ?_
                refine V_getR fa_Mod_26 sk_116 rfl d_Mod_findShown_29 ?_
                refine V_bipush 16 d_Mod_findShown_32 (by decide) ?_
                refine V_iload_n 3 d_Mod_findShown_34 rfl rfl ?_
                refine V_iconst 1 d_Mod_findShown_35 (by decide) ?_
                refine V_iadd v5E tc_1 (by (first | decide +kernel | omega)) d_Mod_findShown_36 (fun z33 z33e z33E => ?_)
                refine V_imul tc_16 z33E (by (first | decide +kernel | omega)) d_Mod_findShown_37 (fun z34 z34e z34E => ?_)
                refine V_aload_n 0 d_Mod_findShown_38 rfl rfl ?_
                refine V_iload d_Mod_findShown_39 rfl ?_
                refine V_iload_n 3 d_Mod_findShown_41 rfl rfl ?_
                refine V_iconst 1 d_Mod_findShown_42 (by decide) ?_
                refine V_iadd v5E tc_1 (by (first | decide +kernel | omega)) d_Mod_findShown_43 (fun z35 z35e z35E => ?_)
                refine N_callVI [.int v17, .int z35] [.int z34, .ref 122] cv_Mod_246 sk_116 rfl d_Mod_findShown_44 rfl (Nat.le_of_ble_eq_true rfl) (by decide) (by decide) (c_Mod_bestBesideX h18 Ih18 v17 v17Z v17E z35 ((v5Z + 1)) z35E w wZ wE K19 g gZ gE K20 (by (first | decide +kernel | omega)) (by (first | decide +kernel | omega))) (fun z36 h37 z36Z z36E p38 => ?_)
                obtain ⟨eh37, p38⟩ := p38
                subst eh37
                have hto : z36Z = bbN ((vv9 (svM h pZ mZ oZ) wZ gZ nZ) (nZ - (v5Z + 1)).toNat) wZ gZ v17Z 4 := z36E.symm.trans (p38.trans (bbN_cg (by (first | decide +kernel | omega)) (by (first | decide +kernel | omega)) (by (first | decide +kernel | omega)) (fun i hi => hr9 (v5Z + 1) (by (first | decide +kernel | omega)) (by (first | decide +kernel | omega)) i (by (first | decide +kernel | omega)) hi) 4 (by (first | decide +kernel | omega))))
                have hbt := bbN_4 (f := (vv9 (svM h pZ mZ oZ) wZ gZ nZ) (nZ - (v5Z + 1)).toNat) (W := wZ) (G := gZ) (c := v17Z) (by (first | decide +kernel | omega)) (by (first | decide +kernel | omega)) (by (first | decide +kernel | omega))
                refine V_iadd z34E z36E (by (first | decide +kernel | omega)) d_Mod_findShown_47 (fun z39 z39e z39E => ?_)
                refine N_iald sk_122 z39E (by (first | decide +kernel | omega)) d_Mod_findShown_48 (fun z40 z40Z z40E z40e => ?_)
                have hx0 : z40Z = (vv9 (svM h pZ mZ oZ) wZ gZ nZ) (nZ - (v5Z + 1)).toNat (z36Z).toNat := by have q9 := hr9 (v5Z + 1) (by (first | decide +kernel | omega)) (by (first | decide +kernel | omega)) (z36Z).toNat (by (first | decide +kernel | omega)) (by (first | decide +kernel | omega)); rw [← z40E, z40e, show (16 * (v5Z + 1) + z36Z).toNat = 16 * (v5Z + 1).toNat + (z36Z).toNat by (first | decide +kernel | omega)]; exact q9
                have hxb := hb0 (nZ - (v5Z + 1)).toNat (z36Z).toNat
                rw [← hx0] at hxb
                refine V_istore 5 [some (.ref 116), some (.int o), some (.int n), some (.int v5), some (.int v17), some (.int z40)] d_Mod_findShown_49 (by decide) rfl rfl ?_
                refine V_aload_n 0 d_Mod_findShown_51 rfl rfl ?_
                refine V_getR fa_Mod_26 sk_116 rfl d_Mod_findShown_52 ?_
                refine V_bipush 16 d_Mod_findShown_55 (by decide) ?_
                refine V_iload_n 3 d_Mod_findShown_57 rfl rfl ?_
                refine V_imul tc_16 v5E (by (first | decide +kernel | omega)) d_Mod_findShown_58 (fun z41 z41e z41E => ?_)
                refine V_iload d_Mod_findShown_59 rfl ?_
                refine V_iadd z41E v17E (by (first | decide +kernel | omega)) d_Mod_findShown_61 (fun z42 z42e z42E => ?_)
                refine V_aload_n 0 d_Mod_findShown_62 rfl rfl ?_
                refine V_iload d_Mod_findShown_63 rfl ?_
                refine V_iload_n 1 d_Mod_findShown_65 rfl rfl ?_
                refine V_iload_n 3 d_Mod_findShown_66 rfl rfl ?_
                refine N_callVI [.int v17, .int o, .int v5] [.int z42, .ref 122] cv_Mod_249 sk_116 rfl d_Mod_findShown_67 rfl (Nat.le_of_ble_eq_true rfl) (by decide) (by decide) (c_Mod_showsInX h18 Ih18 v17 v17Z v17E o oZ oE v5 v5Z v5E p pZ pE K21 m mZ mE K22 (by (first | decide +kernel | omega)) (by (first | decide +kernel | omega))) (fun z43 h44 z43Z z43E p45 => ?_)
                obtain ⟨eh44, p45⟩ := p45
                subst eh44
                have hsv : z43Z = svM h pZ mZ oZ (v17Z).toNat v5Z := z43E.symm.trans (p45.trans (svM_fr Fh18 rfl))
                have hsb2 : -1 ≤ z43Z ∧ z43Z ≤ 2 := by rw [hsv]; exact svv_b _ _
                refine V_iload d_Mod_findShown_70 rfl ?_
                refine V_iadd z43E z40E (by (first | decide +kernel | omega)) d_Mod_findShown_72 (fun z46 z46e z46E => ?_)
                have hv9 : (z43Z + z40Z) = (vv9 (svM h pZ mZ oZ) wZ gZ nZ) (nZ - v5Z).toNat (v17Z).toNat := by have q9 := vv9_s (sv := svM h pZ mZ oZ) (W := wZ) (G := gZ) (n := nZ) (L := (v5Z - 1)) (c := v17Z) (by (first | decide +kernel | omega)) (by (first | decide +kernel | omega)) (by (first | decide +kernel | omega)); rw [show nZ - 1 - (v5Z - 1) = nZ - v5Z by (first | decide +kernel | omega), show (v5Z - 1) + 1 = v5Z by (first | decide +kernel | omega), show nZ - 1 - v5Z = nZ - (v5Z + 1) by (first | decide +kernel | omega)] at q9; rw [q9, ← hto, ← hx0, ← hsv]
                refine N_iast sk_122 z42E (by (first | decide +kernel | omega)) d_Mod_findShown_73 (fun h47 eh47 => ?_)
                have hI48 : Inv h47 := inv_full Ih18 eh47 rfl
                have f49 : fr S_Mod_findShownX h h47 := fr_put Fh18 eh47 rfl
                obtain ⟨z50, z50E, z50e⟩ : ∃ y : Int32, y.toInt = v17Z + 1 ∧ y = v17 + Int32.ofInt 1 := ⟨_, ti_add v17E (by decide) (by (first | decide +kernel | omega)), rfl⟩
                refine V_iinc 4 [some (.ref 116), some (.int o), some (.int n), some (.int v5), some (.int z50), some (.int z40)] d_Mod_findShown_74 rfl z50e.symm (by decide) rfl rfl ?_
                refine V_goto 10 d_Mod_findShown_77 (by decide) ?_
                refine V_drop 5 [some (.ref 116), some (.int o), some (.int n), some (.int v5), some (.int z50), none] rfl ?_
                exact ihL15 z50 ((v17Z + 1)) h47 z50E hI48 f49 (kn_ne eh47 K19 (by decide)) (kn_ne eh47 K20 (by decide)) (kn_ne eh47 K21 (by decide)) (kn_ne eh47 K22 (by decide)) (by (first | decide +kernel | omega)) (fun i a b => VR_ne (hr9 i a b) eh47 (Or.inr (by (first | decide +kernel | omega))) (by (first | decide +kernel | omega))) (VR_s (by assumption) (by (first | decide +kernel | omega)) eh47 (by (first | decide +kernel | omega)) z46E hv9) (by (first | decide +kernel | omega))
              ·
                refine V_iconst 0 d_Mod_findShown_24 (by decide) ?_
                refine V_goto 49 d_Mod_findShown_25 (by decide) ?_
                refine V_istore 5 [some (.ref 116), some (.int o), some (.int n), some (.int v5), some (.int v17), some (.int 0)] d_Mod_findShown_49 (by decide) rfl rfl ?_
                refine V_aload_n 0 d_Mod_findShown_51 rfl rfl ?_
                refine V_getR fa_Mod_26 sk_116 rfl d_Mod_findShown_52 ?_
                refine V_bipush 16 d_Mod_findShown_55 (by decide) ?_
                refine V_iload_n 3 d_Mod_findShown_57 rfl rfl ?_
                refine V_imul tc_16 v5E (by (first | decide +kernel | omega)) d_Mod_findShown_58 (fun z51 z51e z51E => ?_)
                refine V_iload d_Mod_findShown_59 rfl ?_
                refine V_iadd z51E v17E (by (first | decide +kernel | omega)) d_Mod_findShown_61 (fun z52 z52e z52E => ?_)
                refine V_aload_n 0 d_Mod_findShown_62 rfl rfl ?_
                refine V_iload d_Mod_findShown_63 rfl ?_
                refine V_iload_n 1 d_Mod_findShown_65 rfl rfl ?_
                refine V_iload_n 3 d_Mod_findShown_66 rfl rfl ?_
                refine N_callVI [.int v17, .int o, .int v5] [.int z52, .ref 122] cv_Mod_249 sk_116 rfl d_Mod_findShown_67 rfl (Nat.le_of_ble_eq_true rfl) (by decide) (by decide) (c_Mod_showsInX h18 Ih18 v17 v17Z v17E o oZ oE v5 v5Z v5E p pZ pE K21 m mZ mE K22 (by (first | decide +kernel | omega)) (by (first | decide +kernel | omega))) (fun z53 h54 z53Z z53E p55 => ?_)
                obtain ⟨eh54, p55⟩ := p55
                subst eh54
                have hsv : z53Z = svM h pZ mZ oZ (v17Z).toNat v5Z := z53E.symm.trans (p55.trans (svM_fr Fh18 rfl))
                have hsb2 : -1 ≤ z53Z ∧ z53Z ≤ 2 := by rw [hsv]; exact svv_b _ _
                refine V_iload d_Mod_findShown_70 rfl ?_
                refine V_iadd z53E tc_0 (by (first | decide +kernel | omega)) d_Mod_findShown_72 (fun z56 z56e z56E => ?_)
                have hv9 : (z53Z + 0) = (vv9 (svM h pZ mZ oZ) wZ gZ nZ) (nZ - v5Z).toNat (v17Z).toNat := by rw [show (nZ - v5Z).toNat = 0 by (first | decide +kernel | omega)]; show _ = svM h pZ mZ oZ (v17Z).toNat nZ; rw [show nZ = v5Z by (first | decide +kernel | omega), ← hsv]; omega
                refine N_iast sk_122 z52E (by (first | decide +kernel | omega)) d_Mod_findShown_73 (fun h57 eh57 => ?_)
                have hI58 : Inv h57 := inv_full Ih18 eh57 rfl
                have f59 : fr S_Mod_findShownX h h57 := fr_put Fh18 eh57 rfl
                obtain ⟨z60, z60E, z60e⟩ : ∃ y : Int32, y.toInt = v17Z + 1 ∧ y = v17 + Int32.ofInt 1 := ⟨_, ti_add v17E (by decide) (by (first | decide +kernel | omega)), rfl⟩
                refine V_iinc 4 [some (.ref 116), some (.int o), some (.int n), some (.int v5), some (.int z60), some (.int 0)] d_Mod_findShown_74 rfl z60e.symm (by decide) rfl rfl ?_
                refine V_goto 10 d_Mod_findShown_77 (by decide) ?_
                refine V_drop 5 [some (.ref 116), some (.int o), some (.int n), some (.int v5), some (.int z60), none] rfl ?_
                exact ihL15 z60 ((v17Z + 1)) h57 z60E hI58 f59 (kn_ne eh57 K19 (by decide)) (kn_ne eh57 K20 (by decide)) (kn_ne eh57 K21 (by decide)) (kn_ne eh57 K22 (by decide)) (by (first | decide +kernel | omega)) (fun i a b => VR_ne (hr9 i a b) eh57 (Or.inr (by (first | decide +kernel | omega))) (by (first | decide +kernel | omega))) (VR_s (by assumption) (by (first | decide +kernel | omega)) eh57 (by (first | decide +kernel | omega)) z56E hv9) (by (first | decide +kernel | omega))
        exact L15 (Int.toNat ((16 - 0 : Int) + 1)) 0 0 h6 tc_0 Ih6 Fh6 K7 K8 K9 K10 (by (first | decide +kernel | omega)) (by assumption) VR_0 (by (first | decide +kernel | omega))
  exact L3 (Int.toNat ((nZ : Int) + 1)) n nZ h nE hI f0 wK gK pK mK (by (first | decide +kernel | omega)) (fun i a b => by (first | decide +kernel | omega)) (by (first | decide +kernel | omega))
def S_Mod_showX : List (Nat × Option Nat) := [(122, none)]
abbrev q_Mod_showX (h : Hp) (c : Int32) (cZ : Int) (o : Int32) (oZ : Int) (n : Int32) (nZ : Int) (a : Int32) (aZ : Int) (w : Int32) (wZ : Int) (g : Int32) (gZ : Int) (p : Int32) (pZ : Int) (m : Int32) (mZ : Int) : Option Value → Hp → Prop := pInt (fun r h' => Inv h' ∧ fr S_Mod_showX h h' ∧ (TSa ((0 ≤ cZ ∧ cZ < wZ * gZ) ∧ (0 ≤ oZ ∧ oZ ≤ 3) ∧ (1 ≤ nZ ∧ nZ ≤ 6) ∧ (aZ = 0 ∨ 10 ≤ aZ ∧ aZ - 10 < nZ)) r (SWr (vv9 (svM h pZ mZ oZ) wZ gZ nZ) wZ gZ nZ cZ aZ)))
set_option maxRecDepth 100000 in
theorem c_Mod_showX (h : Hp) (hI : Inv h) (c : Int32) (cZ : Int) (cE : c.toInt = cZ) (o : Int32) (oZ : Int) (oE : o.toInt = oZ) (n : Int32) (nZ : Int) (nE : n.toInt = nZ) (a : Int32) (aZ : Int) (aE : a.toInt = aZ) (w : Int32) (wZ : Int) (wE : w.toInt = wZ) (wK : h.1 116 2 = w) (g : Int32) (gZ : Int) (gE : g.toInt = gZ) (gK : h.1 116 3 = g) (p : Int32) (pZ : Int) (pE : p.toInt = pZ) (pK : h.1 117 84 = p) (m : Int32) (mZ : Int) (mE : m.toInt = mZ) (mK : h.1 117 85 = m) : Ct y_Mod_show b_Mod_show 7 (some .int) 4 93 [.ref 116, .int c, .int o, .int n, .int a] h (q_Mod_showX h c cZ o oZ n nZ a aZ w wZ g gZ p pZ m mZ) := by
  refine ct_ow R_Mod [some (.ref 116), some (.int c), some (.int o), some (.int n), some (.int a), none, none] rfl (by decide) rfl (Nat.le_of_ble_eq_true rfl) ?_
  have f0 : fr S_Mod_showX h h := fr_rf
  have g1 : 2 ≤ wZ ∧ wZ ≤ 4 := inv_at hI wE wK.symm rfl
  have g2 : 2 ≤ gZ ∧ gZ ≤ 4 := inv_at hI gE gK.symm rfl
  have aB := And.intro (ti_lo a) (ti_hi a)
  rw [aE] at aB
  have m24 := mul24 (A := wZ) (B := gZ) (by (first | decide +kernel | omega)) (by (first | decide +kernel | omega))
  refine V_aload_n 0 d_Mod_show_0 rfl rfl ?_
  refine V_iload_n 1 d_Mod_show_1 rfl rfl ?_
  refine N_callVI [.int c] [] cv_Mod_200 sk_116 rfl d_Mod_show_2 rfl (Nat.le_of_ble_eq_true rfl) (by decide) (by decide) (c_Mod_isCellX h hI c cZ cE w wZ wE wK g gZ gE gK) (fun z3 h4 z3Z z3E p5 => ?_)
  obtain ⟨eh4, p5⟩ := p5
  subst eh4
  refine V_if_eq 49 z3E d_Mod_show_5 (by decide) (fun c6 => ?_) (fun c6 => ?_)
  ·
    refine V_iconst (-1) d_Mod_show_49 (by decide) ?_
    exact V_iret rfl d_Mod_show_50 ⟨(-1), rfl, ⟨hI, f0, (Or.inr ⟨by (first | decide +kernel | omega), tc_m1⟩)⟩⟩
  ·
    refine V_iload_n 2 d_Mod_show_8 rfl rfl ?_
    refine N_callSI [.int o] [] cs_Mod_205 d_Mod_show_9 rfl (Nat.le_of_ble_eq_true rfl) (by decide) (by decide) (c_Mod_isOwner h o oZ oE) (fun z7 h8 z7Z z7E p9 => ?_)
    obtain ⟨eh8, p9⟩ := p9
    subst eh8
    refine V_if_eq 49 z7E d_Mod_show_12 (by decide) (fun c10 => ?_) (fun c10 => ?_)
    ·
      refine V_iconst (-1) d_Mod_show_49 (by decide) ?_
      exact V_iret rfl d_Mod_show_50 ⟨(-1), rfl, ⟨hI, f0, (Or.inr ⟨by (first | decide +kernel | omega), tc_m1⟩)⟩⟩
    ·
      refine V_iload_n 3 d_Mod_show_15 rfl rfl ?_
      refine V_i2l d_Mod_show_16 (fun z11 z11e z11E => ?_)
      have z11F : z11.toInt = nZ := z11E.trans nE
      refine V_lconst 1 d_Mod_show_17 (by decide) ?_
      refine V_ldc2 d_Mod_show_18 wl_Mod_253 ?_
      refine N_callSI [.long z11, .long 1, .long 6] [] cs_Mod_95 d_Mod_show_21 rfl (Nat.le_of_ble_eq_true rfl) (by decide) (by decide) (c_Mod_in h z11 nZ z11F 1 1 tl_1 6 6 tl_6) (fun z12 h13 z12Z z12E p14 => ?_)
      obtain ⟨eh13, p14⟩ := p14
      subst eh13
      refine V_if_eq 49 z12E d_Mod_show_24 (by decide) (fun c15 => ?_) (fun c15 => ?_)
      ·
        refine V_iconst (-1) d_Mod_show_49 (by decide) ?_
        exact V_iret rfl d_Mod_show_50 ⟨(-1), rfl, ⟨hI, f0, (Or.inr ⟨by (first | decide +kernel | omega), tc_m1⟩)⟩⟩
      ·
        refine V_iload d_Mod_show_27 rfl ?_
        refine V_if_eq 51 aE d_Mod_show_29 (by decide) (fun c16 => ?_) (fun c16 => ?_)
        ·
          refine V_aload_n 0 d_Mod_show_51 rfl rfl ?_
          refine V_iload_n 2 d_Mod_show_52 rfl rfl ?_
          refine V_iload_n 3 d_Mod_show_53 rfl rfl ?_
          refine N_callVV [.int o, .int n] [] cv_Mod_255 sk_116 rfl d_Mod_show_54 rfl (Nat.le_of_ble_eq_true rfl) (by decide) (by decide) (c_Mod_findShownX h hI o oZ oE n nZ nE w wZ wE wK g gZ gE gK p pZ pE pK m mZ mE mK (by (first | decide +kernel | omega))) (fun h18 p19 => ?_)
          obtain ⟨hI20, fh18, p19⟩ := p19
          have f21 : fr S_Mod_showX h h18 := fr_call f0 fh18 rfl
          have hvb := vv9_b (sv := svM h pZ mZ oZ) (W := wZ) (G := gZ) (n := nZ) (fun c s => svv_b _ _) (nZ - 1).toNat cZ.toNat
          have h122 : (h18.1 122 (16 + cZ).toNat).toInt = (vv9 (svM h pZ mZ oZ) wZ gZ nZ) (nZ - 1).toNat cZ.toNat := by have q9 := p19 1 (by (first | decide +kernel | omega)) (by (first | decide +kernel | omega)) cZ.toNat (by (first | decide +kernel | omega)) (by (first | decide +kernel | omega)); rw [show (16 + cZ).toNat = 16 * (1 : Int).toNat + cZ.toNat by (first | decide +kernel | omega)]; exact q9
          refine V_iload d_Mod_show_57 rfl ?_
          refine V_if_ne 75 aE d_Mod_show_59 (by decide) (fun c22 => ?_) (fun c22 => ?_)
          ·
            refine V_iload_n 1 d_Mod_show_75 rfl rfl ?_
            refine V_istore 5 [some (.ref 116), some (.int c), some (.int o), some (.int n), some (.int a), some (.int c), none] d_Mod_show_76 (by decide) rfl rfl ?_
            refine V_iconst 0 d_Mod_show_78 (by decide) ?_
            refine V_istore 6 [some (.ref 116), some (.int c), some (.int o), some (.int n), some (.int a), some (.int c), some (.int 0)] d_Mod_show_79 (by decide) rfl rfl ?_
            have L23 : ∀ (nn : Nat) (v25 : Int32) (v25Z : Int) (v26 : Int32) (v26Z : Int), v25.toInt = v25Z → v26.toInt = v26Z → 0 ≤ v26Z ∧ v26Z ≤ aZ - 10 → v25Z = (pth (vv9 (svM h pZ mZ oZ) wZ gZ nZ) wZ gZ nZ cZ) (v26Z).toNat → aZ - 10 - v26Z < (nn : Int) → V R_Mod b_Mod_show 7 (some .int) 4 93 (q_Mod_showX h c cZ o oZ n nZ a aZ w wZ g gZ p pZ m mZ) h18 81 [some (.ref 116), some (.int c), some (.int o), some (.int n), some (.int a), some (.int v25), some (.int v26)] [] := by
              intro nn
              induction nn with
              | zero => intro v25 v25Z v26 v26Z v25E v26E q27 q28 hm29; exact absurd hm29 (by (first | decide +kernel | omega))
              | succ nn ihL23 =>
                intro v25 v25Z v26 v26Z v25E v26E q27 q28 hm29
                refine V_iload d_Mod_show_81 rfl ?_
                refine V_iload d_Mod_show_83 rfl ?_
                refine V_bipush 10 d_Mod_show_85 (by decide) ?_
                refine V_isub aE tc_10 (by (first | decide +kernel | omega)) d_Mod_show_87 (fun z30 z30e z30E => ?_)
                refine V_icmp_ge 109 v26E z30E d_Mod_show_88 (by decide) (fun c31 => ?_) (fun c31 => ?_)
                ·
                  refine V_iload d_Mod_show_109 rfl ?_
                  exact V_iret rfl d_Mod_show_111 ⟨v25, rfl, ⟨hI20, f21, (Or.inl ⟨by (first | decide +kernel | omega), by unfold SWr; rw [if_neg (by (first | decide +kernel | omega)), v25E, show (aZ - 10).toNat = (v26Z).toNat by (first | decide +kernel | omega)]; assumption⟩)⟩⟩
                ·
                  have hpb := pth_b (v := (vv9 (svM h pZ mZ oZ) wZ gZ nZ)) (W := wZ) (G := gZ) (n := nZ) (c := cZ) (by (first | decide +kernel | omega)) (by (first | decide +kernel | omega)) (by (first | decide +kernel | omega)) (v26Z).toNat
                  have hp6 : v25Z = (pth (vv9 (svM h pZ mZ oZ) wZ gZ nZ) wZ gZ nZ cZ) (v26Z).toNat := by assumption
                  rw [← hp6] at hpb
                  refine V_aload_n 0 d_Mod_show_91 rfl rfl ?_
                  refine V_iload d_Mod_show_92 rfl ?_
                  refine V_iload d_Mod_show_94 rfl ?_
                  refine V_iconst 2 d_Mod_show_96 (by decide) ?_
                  refine V_iadd v26E tc_2 (by (first | decide +kernel | omega)) d_Mod_show_97 (fun z32 z32e z32E => ?_)
                  refine N_callVI [.int v25, .int z32] [] cv_Mod_246 sk_116 rfl d_Mod_show_98 rfl (Nat.le_of_ble_eq_true rfl) (by decide) (by decide) (c_Mod_bestBesideX h18 hI20 v25 v25Z v25E z32 ((v26Z + 2)) z32E w wZ wE (kn_call fh18 wK rfl) g gZ gE (kn_call fh18 gK rfl) (by (first | decide +kernel | omega)) (by (first | decide +kernel | omega))) (fun z33 h34 z33Z z33E p35 => ?_)
                  obtain ⟨eh34, p35⟩ := p35
                  subst eh34
                  have hx7 : z33Z = (pth (vv9 (svM h pZ mZ oZ) wZ gZ nZ) wZ gZ nZ cZ) (v26Z + 1).toNat := by rw [pth_s (by (first | decide +kernel | omega)), show v26Z + 1 - 1 = v26Z by (first | decide +kernel | omega), ← hp6, ← z33E, p35]; exact bbN_cg (by (first | decide +kernel | omega)) (by (first | decide +kernel | omega)) (by (first | decide +kernel | omega)) (fun i hi => by have q9 := p19 (v26Z + 2) (by (first | decide +kernel | omega)) (by (first | decide +kernel | omega)) i (by (first | decide +kernel | omega)) hi; rw [show nZ - (v26Z + 2) = nZ - 1 - (v26Z + 1) by (first | decide +kernel | omega)] at q9; exact q9) 4 (by (first | decide +kernel | omega))
                  refine V_istore 5 [some (.ref 116), some (.int c), some (.int o), some (.int n), some (.int a), some (.int z33), some (.int v26)] d_Mod_show_101 (by decide) rfl rfl ?_
                  obtain ⟨z36, z36E, z36e⟩ : ∃ y : Int32, y.toInt = v26Z + 1 ∧ y = v26 + Int32.ofInt 1 := ⟨_, ti_add v26E (by decide) (by (first | decide +kernel | omega)), rfl⟩
                  refine V_iinc 6 [some (.ref 116), some (.int c), some (.int o), some (.int n), some (.int a), some (.int z33), some (.int z36)] d_Mod_show_103 rfl z36e.symm (by decide) rfl rfl ?_
                  refine V_goto 81 d_Mod_show_106 (by decide) ?_
                  exact ihL23 z33 z33Z z36 ((v26Z + 1)) z33E z36E (by (first | decide +kernel | omega)) hx7 (by (first | decide +kernel | omega))
            exact L23 (Int.toNat ((aZ - 10 - 0 : Int) + 1)) c cZ 0 0 cE tc_0 (by (first | decide +kernel | omega)) rfl (by (first | decide +kernel | omega))
          ·
            refine V_bipush 10 d_Mod_show_62 (by decide) ?_
            refine V_aload_n 0 d_Mod_show_64 rfl rfl ?_
            refine V_getR fa_Mod_26 sk_116 rfl d_Mod_show_65 ?_
            refine V_bipush 16 d_Mod_show_68 (by decide) ?_
            refine V_iload_n 1 d_Mod_show_70 rfl rfl ?_
            refine V_iadd tc_16 cE (by (first | decide +kernel | omega)) d_Mod_show_71 (fun z37 z37e z37E => ?_)
            refine N_iald sk_122 z37E (by (first | decide +kernel | omega)) d_Mod_show_72 (fun z38 z38Z z38E z38e => ?_)
            rw [← z38e, z38E] at h122
            rw [← h122] at hvb
            refine V_iadd tc_10 z38E (by (first | decide +kernel | omega)) d_Mod_show_73 (fun z39 z39e z39E => ?_)
            exact V_iret rfl d_Mod_show_74 ⟨z39, rfl, ⟨hI20, f21, (Or.inl ⟨by (first | decide +kernel | omega), by unfold SWr; rw [if_pos (by (first | decide +kernel | omega)), z39E, h122]⟩)⟩⟩
        ·
          refine V_iload d_Mod_show_32 rfl ?_
          refine V_bipush 10 d_Mod_show_34 (by decide) ?_
          refine N_isubw d_Mod_show_36 (fun z40 z40Z z40E z40e => ?_)
          have g41 := subw_ti aE tc_10 z40e z40E
          refine V_i2l d_Mod_show_37 (fun z42 z42e z42E => ?_)
          have z42F : z42.toInt = z40Z := z42E.trans z40E
          refine V_lconst 0 d_Mod_show_38 (by decide) ?_
          refine V_iload_n 3 d_Mod_show_39 rfl rfl ?_
          refine V_iconst 1 d_Mod_show_40 (by decide) ?_
          refine V_isub nE tc_1 (by (first | decide +kernel | omega)) d_Mod_show_41 (fun z43 z43e z43E => ?_)
          refine V_i2l d_Mod_show_42 (fun z44 z44e z44E => ?_)
          have z44F : z44.toInt = (nZ - 1) := z44E.trans z43E
          refine N_callSI [.long z42, .long 0, .long z44] [] cs_Mod_95 d_Mod_show_43 rfl (Nat.le_of_ble_eq_true rfl) (by decide) (by decide) (c_Mod_in h z42 z40Z z42F 0 0 tl_0 z44 ((nZ - 1)) z44F) (fun z45 h46 z45Z z45E p47 => ?_)
          obtain ⟨eh46, p47⟩ := p47
          subst eh46
          refine V_if_ne 51 z45E d_Mod_show_46 (by decide) (fun c48 => ?_) (fun c48 => ?_)
          ·
            refine V_aload_n 0 d_Mod_show_51 rfl rfl ?_
            refine V_iload_n 2 d_Mod_show_52 rfl rfl ?_
            refine V_iload_n 3 d_Mod_show_53 rfl rfl ?_
            refine N_callVV [.int o, .int n] [] cv_Mod_255 sk_116 rfl d_Mod_show_54 rfl (Nat.le_of_ble_eq_true rfl) (by decide) (by decide) (c_Mod_findShownX h hI o oZ oE n nZ nE w wZ wE wK g gZ gE gK p pZ pE pK m mZ mE mK (by (first | decide +kernel | omega))) (fun h50 p51 => ?_)
            obtain ⟨hI52, fh50, p51⟩ := p51
            have f53 : fr S_Mod_showX h h50 := fr_call f0 fh50 rfl
            have hvb := vv9_b (sv := svM h pZ mZ oZ) (W := wZ) (G := gZ) (n := nZ) (fun c s => svv_b _ _) (nZ - 1).toNat cZ.toNat
            have h122 : (h50.1 122 (16 + cZ).toNat).toInt = (vv9 (svM h pZ mZ oZ) wZ gZ nZ) (nZ - 1).toNat cZ.toNat := by have q9 := p51 1 (by (first | decide +kernel | omega)) (by (first | decide +kernel | omega)) cZ.toNat (by (first | decide +kernel | omega)) (by (first | decide +kernel | omega)); rw [show (16 + cZ).toNat = 16 * (1 : Int).toNat + cZ.toNat by (first | decide +kernel | omega)]; exact q9
            refine V_iload d_Mod_show_57 rfl ?_
            refine V_if_ne 75 aE d_Mod_show_59 (by decide) (fun c54 => ?_) (fun c54 => ?_)
            ·
              refine V_iload_n 1 d_Mod_show_75 rfl rfl ?_
              refine V_istore 5 [some (.ref 116), some (.int c), some (.int o), some (.int n), some (.int a), some (.int c), none] d_Mod_show_76 (by decide) rfl rfl ?_
              refine V_iconst 0 d_Mod_show_78 (by decide) ?_
              refine V_istore 6 [some (.ref 116), some (.int c), some (.int o), some (.int n), some (.int a), some (.int c), some (.int 0)] d_Mod_show_79 (by decide) rfl rfl ?_
              have L55 : ∀ (nn : Nat) (v57 : Int32) (v57Z : Int) (v58 : Int32) (v58Z : Int), v57.toInt = v57Z → v58.toInt = v58Z → 0 ≤ v58Z ∧ v58Z ≤ aZ - 10 → v57Z = (pth (vv9 (svM h pZ mZ oZ) wZ gZ nZ) wZ gZ nZ cZ) (v58Z).toNat → aZ - 10 - v58Z < (nn : Int) → V R_Mod b_Mod_show 7 (some .int) 4 93 (q_Mod_showX h c cZ o oZ n nZ a aZ w wZ g gZ p pZ m mZ) h50 81 [some (.ref 116), some (.int c), some (.int o), some (.int n), some (.int a), some (.int v57), some (.int v58)] [] := by
                intro nn
                induction nn with
                | zero => intro v57 v57Z v58 v58Z v57E v58E q59 q60 hm61; exact absurd hm61 (by (first | decide +kernel | omega))
                | succ nn ihL55 =>
                  intro v57 v57Z v58 v58Z v57E v58E q59 q60 hm61
                  refine V_iload d_Mod_show_81 rfl ?_
                  refine V_iload d_Mod_show_83 rfl ?_
                  refine V_bipush 10 d_Mod_show_85 (by decide) ?_
                  refine V_isub aE tc_10 (by (first | decide +kernel | omega)) d_Mod_show_87 (fun z62 z62e z62E => ?_)
                  refine V_icmp_ge 109 v58E z62E d_Mod_show_88 (by decide) (fun c63 => ?_) (fun c63 => ?_)
                  ·
                    refine V_iload d_Mod_show_109 rfl ?_
                    exact V_iret rfl d_Mod_show_111 ⟨v57, rfl, ⟨hI52, f53, (Or.inl ⟨by (first | decide +kernel | omega), by unfold SWr; rw [if_neg (by (first | decide +kernel | omega)), v57E, show (aZ - 10).toNat = (v58Z).toNat by (first | decide +kernel | omega)]; assumption⟩)⟩⟩
                  ·
                    have hpb := pth_b (v := (vv9 (svM h pZ mZ oZ) wZ gZ nZ)) (W := wZ) (G := gZ) (n := nZ) (c := cZ) (by (first | decide +kernel | omega)) (by (first | decide +kernel | omega)) (by (first | decide +kernel | omega)) (v58Z).toNat
                    have hp6 : v57Z = (pth (vv9 (svM h pZ mZ oZ) wZ gZ nZ) wZ gZ nZ cZ) (v58Z).toNat := by assumption
                    rw [← hp6] at hpb
                    refine V_aload_n 0 d_Mod_show_91 rfl rfl ?_
                    refine V_iload d_Mod_show_92 rfl ?_
                    refine V_iload d_Mod_show_94 rfl ?_
                    refine V_iconst 2 d_Mod_show_96 (by decide) ?_
                    refine V_iadd v58E tc_2 (by (first | decide +kernel | omega)) d_Mod_show_97 (fun z64 z64e z64E => ?_)
                    refine N_callVI [.int v57, .int z64] [] cv_Mod_246 sk_116 rfl d_Mod_show_98 rfl (Nat.le_of_ble_eq_true rfl) (by decide) (by decide) (c_Mod_bestBesideX h50 hI52 v57 v57Z v57E z64 ((v58Z + 2)) z64E w wZ wE (kn_call fh50 wK rfl) g gZ gE (kn_call fh50 gK rfl) (by (first | decide +kernel | omega)) (by (first | decide +kernel | omega))) (fun z65 h66 z65Z z65E p67 => ?_)
                    obtain ⟨eh66, p67⟩ := p67
                    subst eh66
                    have hx7 : z65Z = (pth (vv9 (svM h pZ mZ oZ) wZ gZ nZ) wZ gZ nZ cZ) (v58Z + 1).toNat := by rw [pth_s (by (first | decide +kernel | omega)), show v58Z + 1 - 1 = v58Z by (first | decide +kernel | omega), ← hp6, ← z65E, p67]; exact bbN_cg (by (first | decide +kernel | omega)) (by (first | decide +kernel | omega)) (by (first | decide +kernel | omega)) (fun i hi => by have q9 := p51 (v58Z + 2) (by (first | decide +kernel | omega)) (by (first | decide +kernel | omega)) i (by (first | decide +kernel | omega)) hi; rw [show nZ - (v58Z + 2) = nZ - 1 - (v58Z + 1) by (first | decide +kernel | omega)] at q9; exact q9) 4 (by (first | decide +kernel | omega))
                    refine V_istore 5 [some (.ref 116), some (.int c), some (.int o), some (.int n), some (.int a), some (.int z65), some (.int v58)] d_Mod_show_101 (by decide) rfl rfl ?_
                    obtain ⟨z68, z68E, z68e⟩ : ∃ y : Int32, y.toInt = v58Z + 1 ∧ y = v58 + Int32.ofInt 1 := ⟨_, ti_add v58E (by decide) (by (first | decide +kernel | omega)), rfl⟩
                    refine V_iinc 6 [some (.ref 116), some (.int c), some (.int o), some (.int n), some (.int a), some (.int z65), some (.int z68)] d_Mod_show_103 rfl z68e.symm (by decide) rfl rfl ?_
                    refine V_goto 81 d_Mod_show_106 (by decide) ?_
                    exact ihL55 z65 z65Z z68 ((v58Z + 1)) z65E z68E (by (first | decide +kernel | omega)) hx7 (by (first | decide +kernel | omega))
              exact L55 (Int.toNat ((aZ - 10 - 0 : Int) + 1)) c cZ 0 0 cE tc_0 (by (first | decide +kernel | omega)) rfl (by (first | decide +kernel | omega))
            ·
              refine V_bipush 10 d_Mod_show_62 (by decide) ?_
              refine V_aload_n 0 d_Mod_show_64 rfl rfl ?_
              refine V_getR fa_Mod_26 sk_116 rfl d_Mod_show_65 ?_
              refine V_bipush 16 d_Mod_show_68 (by decide) ?_
              refine V_iload_n 1 d_Mod_show_70 rfl rfl ?_
              refine V_iadd tc_16 cE (by (first | decide +kernel | omega)) d_Mod_show_71 (fun z69 z69e z69E => ?_)
              refine N_iald sk_122 z69E (by (first | decide +kernel | omega)) d_Mod_show_72 (fun z70 z70Z z70E z70e => ?_)
              rw [← z70e, z70E] at h122
              rw [← h122] at hvb
              refine V_iadd tc_10 z70E (by (first | decide +kernel | omega)) d_Mod_show_73 (fun z71 z71e z71E => ?_)
              exact V_iret rfl d_Mod_show_74 ⟨z71, rfl, ⟨hI52, f53, (Or.inl ⟨by (first | decide +kernel | omega), by unfold SWr; rw [if_pos (by (first | decide +kernel | omega)), z71E, h122]⟩)⟩⟩
          ·
            refine V_iconst (-1) d_Mod_show_49 (by decide) ?_
            exact V_iret rfl d_Mod_show_50 ⟨(-1), rfl, ⟨hI, f0, (Or.inr ⟨by (first | decide +kernel | omega), tc_m1⟩)⟩⟩
end
section
theorem dl_18 : decode code 18 = .ok (.iload_n 3, 1) := dc_29 (dcc (r := 18) lq_0 rfl (Nat.le_of_ble_eq_true rfl) (by decide +kernel))
theorem dl_19 : decode code 19 = .ok (.aload_n 0, 1) := dc_42 (dcc (r := 19) lq_0 rfl (Nat.le_of_ble_eq_true rfl) (by decide +kernel))
theorem dl_20 : decode code 20 = .ok (.arraylength, 1) := dc_190 (dcc (r := 20) lq_0 rfl (Nat.le_of_ble_eq_true rfl) (by decide +kernel))
theorem dl_21 : decode code 21 = .ok (.iconst 5, 1) := dc_8 (dcc (r := 21) lq_0 rfl (Nat.le_of_ble_eq_true rfl) (by decide +kernel))
theorem dl_22 : decode code 22 = .ok (.isub, 1) := dc_100 (dcc (r := 22) lq_0 rfl (Nat.le_of_ble_eq_true rfl) (by decide +kernel))
theorem dl_23 : decode code 23 = .ok (.if_icmp .gt 1342, 3) := dc_163 (a := 5) (b := 62) (dcc (r := 23) lq_0 rfl (Nat.le_of_ble_eq_true rfl) (by decide +kernel)) rfl
theorem dl_26 : decode code 26 = .ok (.aload_n 0, 1) := dc_42 (dcc (r := 26) lq_0 rfl (Nat.le_of_ble_eq_true rfl) (by decide +kernel))
theorem dl_27 : decode code 27 = .ok (.iload_n 3, 1) := dc_29 (dcc (r := 27) lq_0 rfl (Nat.le_of_ble_eq_true rfl) (by decide +kernel))
theorem dl_28 : decode code 28 = .ok (.iaload, 1) := dc_46 (dcc (r := 28) lq_0 rfl (Nat.le_of_ble_eq_true rfl) (by decide +kernel))
theorem dl_29 : decode code 29 = .ok (.bipush 63, 2) := dc_16 (a := 63) (dcc (r := 29) lq_0 rfl (Nat.le_of_ble_eq_true rfl) (by decide +kernel)) rfl
theorem dl_31 : decode code 31 = .ok (.iand, 1) := dc_126 (dcc (r := 31) lq_0 rfl (Nat.le_of_ble_eq_true rfl) (by decide +kernel))
theorem dl_32 : decode code 32 = .ok (.tableswitch 1327 0 36 #[164, 187, 210, 223, 236, 259, 292, 315, 348, 397, 430, 463, 496, 529, 572, 595, 618, 661, 730, 753, 766, 789, 822, 875, 918, 971, 994, 1027, 1050, 1073, 1106, 1129, 1152, 1195, 1238, 1291, 1304], 164) := by decide +kernel
theorem dl_196 : decode code 196 = .ok (.aload_n 1, 1) := dc_43 (dcc (r := 4) lq_3 rfl (Nat.le_of_ble_eq_true rfl) (by decide +kernel))
theorem dl_197 : decode code 197 = .ok (.aload_n 0, 1) := dc_42 (dcc (r := 5) lq_3 rfl (Nat.le_of_ble_eq_true rfl) (by decide +kernel))
theorem dl_198 : decode code 198 = .ok (.iload_n 3, 1) := dc_29 (dcc (r := 6) lq_3 rfl (Nat.le_of_ble_eq_true rfl) (by decide +kernel))
theorem dl_199 : decode code 199 = .ok (.iconst 1, 1) := dc_4 (dcc (r := 7) lq_3 rfl (Nat.le_of_ble_eq_true rfl) (by decide +kernel))
theorem dl_200 : decode code 200 = .ok (.iadd, 1) := dc_96 (dcc (r := 8) lq_3 rfl (Nat.le_of_ble_eq_true rfl) (by decide +kernel))
theorem dl_201 : decode code 201 = .ok (.iaload, 1) := dc_46 (dcc (r := 9) lq_3 rfl (Nat.le_of_ble_eq_true rfl) (by decide +kernel))
theorem dl_202 : decode code 202 = .ok (.invokevirtual 13, 3) := dc_182 (a := 0) (b := 13) (dcc (r := 10) lq_3 rfl (Nat.le_of_ble_eq_true rfl) (by decide +kernel)) rfl
theorem dl_205 : decode code 205 = .ok (.pop, 1) := dc_87 (dcc (r := 13) lq_3 rfl (Nat.le_of_ble_eq_true rfl) (by decide +kernel))
theorem dl_206 : decode code 206 = .ok (.aload_n 2, 1) := dc_44 (dcc (r := 14) lq_3 rfl (Nat.le_of_ble_eq_true rfl) (by decide +kernel))
theorem dl_207 : decode code 207 = .ok (.aload_n 0, 1) := dc_42 (dcc (r := 15) lq_3 rfl (Nat.le_of_ble_eq_true rfl) (by decide +kernel))
theorem dl_208 : decode code 208 = .ok (.iload_n 3, 1) := dc_29 (dcc (r := 16) lq_3 rfl (Nat.le_of_ble_eq_true rfl) (by decide +kernel))
theorem dl_209 : decode code 209 = .ok (.iconst 1, 1) := dc_4 (dcc (r := 17) lq_3 rfl (Nat.le_of_ble_eq_true rfl) (by decide +kernel))
theorem dl_210 : decode code 210 = .ok (.iadd, 1) := dc_96 (dcc (r := 18) lq_3 rfl (Nat.le_of_ble_eq_true rfl) (by decide +kernel))
theorem dl_211 : decode code 211 = .ok (.iaload, 1) := dc_46 (dcc (r := 19) lq_3 rfl (Nat.le_of_ble_eq_true rfl) (by decide +kernel))
theorem dl_212 : decode code 212 = .ok (.invokevirtual 17, 3) := dc_182 (a := 0) (b := 17) (dcc (r := 20) lq_3 rfl (Nat.le_of_ble_eq_true rfl) (by decide +kernel)) rfl
theorem dl_215 : decode code 215 = .ok (.pop, 1) := dc_87 (dcc (r := 23) lq_3 rfl (Nat.le_of_ble_eq_true rfl) (by decide +kernel))
theorem dl_216 : decode code 216 = .ok (.goto 1143, 3) := dc_167 (a := 4) (b := 119) (dcc (r := 24) lq_3 rfl (Nat.le_of_ble_eq_true rfl) (by decide +kernel)) rfl
theorem dl_219 : decode code 219 = .ok (.aload_n 1, 1) := dc_43 (dcc (r := 27) lq_3 rfl (Nat.le_of_ble_eq_true rfl) (by decide +kernel))
theorem dl_220 : decode code 220 = .ok (.aload_n 0, 1) := dc_42 (dcc (r := 28) lq_3 rfl (Nat.le_of_ble_eq_true rfl) (by decide +kernel))
theorem dl_221 : decode code 221 = .ok (.iload_n 3, 1) := dc_29 (dcc (r := 29) lq_3 rfl (Nat.le_of_ble_eq_true rfl) (by decide +kernel))
theorem dl_222 : decode code 222 = .ok (.iconst 1, 1) := dc_4 (dcc (r := 30) lq_3 rfl (Nat.le_of_ble_eq_true rfl) (by decide +kernel))
theorem dl_223 : decode code 223 = .ok (.iadd, 1) := dc_96 (dcc (r := 31) lq_3 rfl (Nat.le_of_ble_eq_true rfl) (by decide +kernel))
theorem dl_224 : decode code 224 = .ok (.iaload, 1) := dc_46 (dcc (r := 32) lq_3 rfl (Nat.le_of_ble_eq_true rfl) (by decide +kernel))
theorem dl_225 : decode code 225 = .ok (.invokevirtual 18, 3) := dc_182 (a := 0) (b := 18) (dcc (r := 33) lq_3 rfl (Nat.le_of_ble_eq_true rfl) (by decide +kernel)) rfl
theorem dl_228 : decode code 228 = .ok (.pop, 1) := dc_87 (dcc (r := 36) lq_3 rfl (Nat.le_of_ble_eq_true rfl) (by decide +kernel))
theorem dl_229 : decode code 229 = .ok (.aload_n 2, 1) := dc_44 (dcc (r := 37) lq_3 rfl (Nat.le_of_ble_eq_true rfl) (by decide +kernel))
theorem dl_230 : decode code 230 = .ok (.aload_n 0, 1) := dc_42 (dcc (r := 38) lq_3 rfl (Nat.le_of_ble_eq_true rfl) (by decide +kernel))
theorem dl_231 : decode code 231 = .ok (.iload_n 3, 1) := dc_29 (dcc (r := 39) lq_3 rfl (Nat.le_of_ble_eq_true rfl) (by decide +kernel))
theorem dl_232 : decode code 232 = .ok (.iconst 1, 1) := dc_4 (dcc (r := 40) lq_3 rfl (Nat.le_of_ble_eq_true rfl) (by decide +kernel))
theorem dl_233 : decode code 233 = .ok (.iadd, 1) := dc_96 (dcc (r := 41) lq_3 rfl (Nat.le_of_ble_eq_true rfl) (by decide +kernel))
theorem dl_234 : decode code 234 = .ok (.iaload, 1) := dc_46 (dcc (r := 42) lq_3 rfl (Nat.le_of_ble_eq_true rfl) (by decide +kernel))
theorem dl_235 : decode code 235 = .ok (.invokevirtual 21, 3) := dc_182 (a := 0) (b := 21) (dcc (r := 43) lq_3 rfl (Nat.le_of_ble_eq_true rfl) (by decide +kernel)) rfl
theorem dl_238 : decode code 238 = .ok (.pop, 1) := dc_87 (dcc (r := 46) lq_3 rfl (Nat.le_of_ble_eq_true rfl) (by decide +kernel))
theorem dl_239 : decode code 239 = .ok (.goto 1120, 3) := dc_167 (a := 4) (b := 96) (dcc (r := 47) lq_3 rfl (Nat.le_of_ble_eq_true rfl) (by decide +kernel)) rfl
theorem dl_242 : decode code 242 = .ok (.aload_n 1, 1) := dc_43 (dcc (r := 50) lq_3 rfl (Nat.le_of_ble_eq_true rfl) (by decide +kernel))
theorem dl_243 : decode code 243 = .ok (.invokevirtual 22, 3) := dc_182 (a := 0) (b := 22) (dcc (r := 51) lq_3 rfl (Nat.le_of_ble_eq_true rfl) (by decide +kernel)) rfl
theorem dl_246 : decode code 246 = .ok (.pop, 1) := dc_87 (dcc (r := 54) lq_3 rfl (Nat.le_of_ble_eq_true rfl) (by decide +kernel))
theorem dl_247 : decode code 247 = .ok (.aload_n 2, 1) := dc_44 (dcc (r := 55) lq_3 rfl (Nat.le_of_ble_eq_true rfl) (by decide +kernel))
theorem dl_248 : decode code 248 = .ok (.invokevirtual 26, 3) := dc_182 (a := 0) (b := 26) (dcc (r := 56) lq_3 rfl (Nat.le_of_ble_eq_true rfl) (by decide +kernel)) rfl
theorem dl_251 : decode code 251 = .ok (.pop, 1) := dc_87 (dcc (r := 59) lq_3 rfl (Nat.le_of_ble_eq_true rfl) (by decide +kernel))
theorem dl_252 : decode code 252 = .ok (.goto 1107, 3) := dc_167 (a := 4) (b := 83) (dcc (r := 60) lq_3 rfl (Nat.le_of_ble_eq_true rfl) (by decide +kernel)) rfl
theorem dl_255 : decode code 255 = .ok (.aload_n 1, 1) := dc_43 (dcc (r := 63) lq_3 rfl (Nat.le_of_ble_eq_true rfl) (by decide +kernel))
theorem dl_256 : decode code 256 = .ok (.invokevirtual 27, 3) := dc_182 (a := 0) (b := 27) (dcc (r := 0) lq_4 rfl (Nat.le_of_ble_eq_true rfl) (by decide +kernel)) rfl
theorem dl_259 : decode code 259 = .ok (.pop, 1) := dc_87 (dcc (r := 3) lq_4 rfl (Nat.le_of_ble_eq_true rfl) (by decide +kernel))
theorem dl_260 : decode code 260 = .ok (.aload_n 2, 1) := dc_44 (dcc (r := 4) lq_4 rfl (Nat.le_of_ble_eq_true rfl) (by decide +kernel))
theorem dl_261 : decode code 261 = .ok (.invokevirtual 30, 3) := dc_182 (a := 0) (b := 30) (dcc (r := 5) lq_4 rfl (Nat.le_of_ble_eq_true rfl) (by decide +kernel)) rfl
theorem dl_264 : decode code 264 = .ok (.pop, 1) := dc_87 (dcc (r := 8) lq_4 rfl (Nat.le_of_ble_eq_true rfl) (by decide +kernel))
theorem dl_265 : decode code 265 = .ok (.goto 1094, 3) := dc_167 (a := 4) (b := 70) (dcc (r := 9) lq_4 rfl (Nat.le_of_ble_eq_true rfl) (by decide +kernel)) rfl
theorem dl_268 : decode code 268 = .ok (.aload_n 1, 1) := dc_43 (dcc (r := 12) lq_4 rfl (Nat.le_of_ble_eq_true rfl) (by decide +kernel))
theorem dl_269 : decode code 269 = .ok (.aload_n 0, 1) := dc_42 (dcc (r := 13) lq_4 rfl (Nat.le_of_ble_eq_true rfl) (by decide +kernel))
theorem dl_270 : decode code 270 = .ok (.iload_n 3, 1) := dc_29 (dcc (r := 14) lq_4 rfl (Nat.le_of_ble_eq_true rfl) (by decide +kernel))
theorem dl_271 : decode code 271 = .ok (.iconst 1, 1) := dc_4 (dcc (r := 15) lq_4 rfl (Nat.le_of_ble_eq_true rfl) (by decide +kernel))
theorem dl_272 : decode code 272 = .ok (.iadd, 1) := dc_96 (dcc (r := 16) lq_4 rfl (Nat.le_of_ble_eq_true rfl) (by decide +kernel))
theorem dl_273 : decode code 273 = .ok (.iaload, 1) := dc_46 (dcc (r := 17) lq_4 rfl (Nat.le_of_ble_eq_true rfl) (by decide +kernel))
theorem dl_274 : decode code 274 = .ok (.invokevirtual 31, 3) := dc_182 (a := 0) (b := 31) (dcc (r := 18) lq_4 rfl (Nat.le_of_ble_eq_true rfl) (by decide +kernel)) rfl
theorem dl_277 : decode code 277 = .ok (.pop, 1) := dc_87 (dcc (r := 21) lq_4 rfl (Nat.le_of_ble_eq_true rfl) (by decide +kernel))
theorem dl_278 : decode code 278 = .ok (.aload_n 2, 1) := dc_44 (dcc (r := 22) lq_4 rfl (Nat.le_of_ble_eq_true rfl) (by decide +kernel))
theorem dl_279 : decode code 279 = .ok (.aload_n 0, 1) := dc_42 (dcc (r := 23) lq_4 rfl (Nat.le_of_ble_eq_true rfl) (by decide +kernel))
theorem dl_280 : decode code 280 = .ok (.iload_n 3, 1) := dc_29 (dcc (r := 24) lq_4 rfl (Nat.le_of_ble_eq_true rfl) (by decide +kernel))
theorem dl_281 : decode code 281 = .ok (.iconst 1, 1) := dc_4 (dcc (r := 25) lq_4 rfl (Nat.le_of_ble_eq_true rfl) (by decide +kernel))
theorem dl_282 : decode code 282 = .ok (.iadd, 1) := dc_96 (dcc (r := 26) lq_4 rfl (Nat.le_of_ble_eq_true rfl) (by decide +kernel))
theorem dl_283 : decode code 283 = .ok (.iaload, 1) := dc_46 (dcc (r := 27) lq_4 rfl (Nat.le_of_ble_eq_true rfl) (by decide +kernel))
theorem dl_284 : decode code 284 = .ok (.invokevirtual 34, 3) := dc_182 (a := 0) (b := 34) (dcc (r := 28) lq_4 rfl (Nat.le_of_ble_eq_true rfl) (by decide +kernel)) rfl
theorem dl_287 : decode code 287 = .ok (.pop, 1) := dc_87 (dcc (r := 31) lq_4 rfl (Nat.le_of_ble_eq_true rfl) (by decide +kernel))
theorem dl_288 : decode code 288 = .ok (.goto 1071, 3) := dc_167 (a := 4) (b := 47) (dcc (r := 32) lq_4 rfl (Nat.le_of_ble_eq_true rfl) (by decide +kernel)) rfl
theorem dl_291 : decode code 291 = .ok (.aload_n 1, 1) := dc_43 (dcc (r := 35) lq_4 rfl (Nat.le_of_ble_eq_true rfl) (by decide +kernel))
theorem dl_292 : decode code 292 = .ok (.aload_n 0, 1) := dc_42 (dcc (r := 36) lq_4 rfl (Nat.le_of_ble_eq_true rfl) (by decide +kernel))
theorem dl_293 : decode code 293 = .ok (.iload_n 3, 1) := dc_29 (dcc (r := 37) lq_4 rfl (Nat.le_of_ble_eq_true rfl) (by decide +kernel))
theorem dl_294 : decode code 294 = .ok (.iconst 1, 1) := dc_4 (dcc (r := 38) lq_4 rfl (Nat.le_of_ble_eq_true rfl) (by decide +kernel))
theorem dl_295 : decode code 295 = .ok (.iadd, 1) := dc_96 (dcc (r := 39) lq_4 rfl (Nat.le_of_ble_eq_true rfl) (by decide +kernel))
theorem dl_296 : decode code 296 = .ok (.iaload, 1) := dc_46 (dcc (r := 40) lq_4 rfl (Nat.le_of_ble_eq_true rfl) (by decide +kernel))
theorem dl_297 : decode code 297 = .ok (.aload_n 0, 1) := dc_42 (dcc (r := 41) lq_4 rfl (Nat.le_of_ble_eq_true rfl) (by decide +kernel))
theorem dl_298 : decode code 298 = .ok (.iload_n 3, 1) := dc_29 (dcc (r := 42) lq_4 rfl (Nat.le_of_ble_eq_true rfl) (by decide +kernel))
theorem dl_299 : decode code 299 = .ok (.iconst 2, 1) := dc_5 (dcc (r := 43) lq_4 rfl (Nat.le_of_ble_eq_true rfl) (by decide +kernel))
theorem dl_300 : decode code 300 = .ok (.iadd, 1) := dc_96 (dcc (r := 44) lq_4 rfl (Nat.le_of_ble_eq_true rfl) (by decide +kernel))
theorem dl_301 : decode code 301 = .ok (.iaload, 1) := dc_46 (dcc (r := 45) lq_4 rfl (Nat.le_of_ble_eq_true rfl) (by decide +kernel))
theorem dl_302 : decode code 302 = .ok (.invokevirtual 35, 3) := dc_182 (a := 0) (b := 35) (dcc (r := 46) lq_4 rfl (Nat.le_of_ble_eq_true rfl) (by decide +kernel)) rfl
theorem dl_305 : decode code 305 = .ok (.pop, 1) := dc_87 (dcc (r := 49) lq_4 rfl (Nat.le_of_ble_eq_true rfl) (by decide +kernel))
theorem dl_306 : decode code 306 = .ok (.aload_n 2, 1) := dc_44 (dcc (r := 50) lq_4 rfl (Nat.le_of_ble_eq_true rfl) (by decide +kernel))
theorem dl_307 : decode code 307 = .ok (.aload_n 0, 1) := dc_42 (dcc (r := 51) lq_4 rfl (Nat.le_of_ble_eq_true rfl) (by decide +kernel))
theorem dl_308 : decode code 308 = .ok (.iload_n 3, 1) := dc_29 (dcc (r := 52) lq_4 rfl (Nat.le_of_ble_eq_true rfl) (by decide +kernel))
theorem dl_309 : decode code 309 = .ok (.iconst 1, 1) := dc_4 (dcc (r := 53) lq_4 rfl (Nat.le_of_ble_eq_true rfl) (by decide +kernel))
theorem dl_310 : decode code 310 = .ok (.iadd, 1) := dc_96 (dcc (r := 54) lq_4 rfl (Nat.le_of_ble_eq_true rfl) (by decide +kernel))
theorem dl_311 : decode code 311 = .ok (.iaload, 1) := dc_46 (dcc (r := 55) lq_4 rfl (Nat.le_of_ble_eq_true rfl) (by decide +kernel))
theorem dl_312 : decode code 312 = .ok (.aload_n 0, 1) := dc_42 (dcc (r := 56) lq_4 rfl (Nat.le_of_ble_eq_true rfl) (by decide +kernel))
theorem dl_313 : decode code 313 = .ok (.iload_n 3, 1) := dc_29 (dcc (r := 57) lq_4 rfl (Nat.le_of_ble_eq_true rfl) (by decide +kernel))
theorem dl_314 : decode code 314 = .ok (.iconst 2, 1) := dc_5 (dcc (r := 58) lq_4 rfl (Nat.le_of_ble_eq_true rfl) (by decide +kernel))
theorem dl_315 : decode code 315 = .ok (.iadd, 1) := dc_96 (dcc (r := 59) lq_4 rfl (Nat.le_of_ble_eq_true rfl) (by decide +kernel))
theorem dl_316 : decode code 316 = .ok (.iaload, 1) := dc_46 (dcc (r := 60) lq_4 rfl (Nat.le_of_ble_eq_true rfl) (by decide +kernel))
theorem dl_317 : decode code 317 = .ok (.invokevirtual 39, 3) := dc_182 (a := 0) (b := 39) (dcc (r := 61) lq_4 rfl (Nat.le_of_ble_eq_true rfl) (by decide +kernel)) rfl
theorem dl_320 : decode code 320 = .ok (.pop, 1) := dc_87 (dcc (r := 0) lq_5 rfl (Nat.le_of_ble_eq_true rfl) (by decide +kernel))
theorem dl_321 : decode code 321 = .ok (.goto 1038, 3) := dc_167 (a := 4) (b := 14) (dcc (r := 1) lq_5 rfl (Nat.le_of_ble_eq_true rfl) (by decide +kernel)) rfl
theorem dl_324 : decode code 324 = .ok (.aload_n 1, 1) := dc_43 (dcc (r := 4) lq_5 rfl (Nat.le_of_ble_eq_true rfl) (by decide +kernel))
theorem dl_325 : decode code 325 = .ok (.aload_n 0, 1) := dc_42 (dcc (r := 5) lq_5 rfl (Nat.le_of_ble_eq_true rfl) (by decide +kernel))
theorem dl_326 : decode code 326 = .ok (.iload_n 3, 1) := dc_29 (dcc (r := 6) lq_5 rfl (Nat.le_of_ble_eq_true rfl) (by decide +kernel))
theorem dl_327 : decode code 327 = .ok (.iconst 1, 1) := dc_4 (dcc (r := 7) lq_5 rfl (Nat.le_of_ble_eq_true rfl) (by decide +kernel))
theorem dl_328 : decode code 328 = .ok (.iadd, 1) := dc_96 (dcc (r := 8) lq_5 rfl (Nat.le_of_ble_eq_true rfl) (by decide +kernel))
theorem dl_329 : decode code 329 = .ok (.iaload, 1) := dc_46 (dcc (r := 9) lq_5 rfl (Nat.le_of_ble_eq_true rfl) (by decide +kernel))
theorem dl_330 : decode code 330 = .ok (.invokevirtual 40, 3) := dc_182 (a := 0) (b := 40) (dcc (r := 10) lq_5 rfl (Nat.le_of_ble_eq_true rfl) (by decide +kernel)) rfl
theorem dl_333 : decode code 333 = .ok (.pop, 1) := dc_87 (dcc (r := 13) lq_5 rfl (Nat.le_of_ble_eq_true rfl) (by decide +kernel))
theorem dl_334 : decode code 334 = .ok (.aload_n 2, 1) := dc_44 (dcc (r := 14) lq_5 rfl (Nat.le_of_ble_eq_true rfl) (by decide +kernel))
theorem dl_335 : decode code 335 = .ok (.aload_n 0, 1) := dc_42 (dcc (r := 15) lq_5 rfl (Nat.le_of_ble_eq_true rfl) (by decide +kernel))
theorem dl_336 : decode code 336 = .ok (.iload_n 3, 1) := dc_29 (dcc (r := 16) lq_5 rfl (Nat.le_of_ble_eq_true rfl) (by decide +kernel))
theorem dl_337 : decode code 337 = .ok (.iconst 1, 1) := dc_4 (dcc (r := 17) lq_5 rfl (Nat.le_of_ble_eq_true rfl) (by decide +kernel))
theorem dl_338 : decode code 338 = .ok (.iadd, 1) := dc_96 (dcc (r := 18) lq_5 rfl (Nat.le_of_ble_eq_true rfl) (by decide +kernel))
theorem dl_339 : decode code 339 = .ok (.iaload, 1) := dc_46 (dcc (r := 19) lq_5 rfl (Nat.le_of_ble_eq_true rfl) (by decide +kernel))
theorem dl_340 : decode code 340 = .ok (.invokevirtual 43, 3) := dc_182 (a := 0) (b := 43) (dcc (r := 20) lq_5 rfl (Nat.le_of_ble_eq_true rfl) (by decide +kernel)) rfl
theorem dl_343 : decode code 343 = .ok (.pop, 1) := dc_87 (dcc (r := 23) lq_5 rfl (Nat.le_of_ble_eq_true rfl) (by decide +kernel))
theorem dl_344 : decode code 344 = .ok (.goto 1015, 3) := dc_167 (a := 3) (b := 247) (dcc (r := 24) lq_5 rfl (Nat.le_of_ble_eq_true rfl) (by decide +kernel)) rfl
theorem dl_347 : decode code 347 = .ok (.aload_n 1, 1) := dc_43 (dcc (r := 27) lq_5 rfl (Nat.le_of_ble_eq_true rfl) (by decide +kernel))
theorem dl_348 : decode code 348 = .ok (.aload_n 0, 1) := dc_42 (dcc (r := 28) lq_5 rfl (Nat.le_of_ble_eq_true rfl) (by decide +kernel))
theorem dl_349 : decode code 349 = .ok (.iload_n 3, 1) := dc_29 (dcc (r := 29) lq_5 rfl (Nat.le_of_ble_eq_true rfl) (by decide +kernel))
theorem dl_350 : decode code 350 = .ok (.iconst 1, 1) := dc_4 (dcc (r := 30) lq_5 rfl (Nat.le_of_ble_eq_true rfl) (by decide +kernel))
theorem dl_351 : decode code 351 = .ok (.iadd, 1) := dc_96 (dcc (r := 31) lq_5 rfl (Nat.le_of_ble_eq_true rfl) (by decide +kernel))
theorem dl_352 : decode code 352 = .ok (.iaload, 1) := dc_46 (dcc (r := 32) lq_5 rfl (Nat.le_of_ble_eq_true rfl) (by decide +kernel))
theorem dl_353 : decode code 353 = .ok (.aload_n 0, 1) := dc_42 (dcc (r := 33) lq_5 rfl (Nat.le_of_ble_eq_true rfl) (by decide +kernel))
theorem dl_354 : decode code 354 = .ok (.iload_n 3, 1) := dc_29 (dcc (r := 34) lq_5 rfl (Nat.le_of_ble_eq_true rfl) (by decide +kernel))
theorem dl_355 : decode code 355 = .ok (.iconst 2, 1) := dc_5 (dcc (r := 35) lq_5 rfl (Nat.le_of_ble_eq_true rfl) (by decide +kernel))
theorem dl_356 : decode code 356 = .ok (.iadd, 1) := dc_96 (dcc (r := 36) lq_5 rfl (Nat.le_of_ble_eq_true rfl) (by decide +kernel))
theorem dl_357 : decode code 357 = .ok (.iaload, 1) := dc_46 (dcc (r := 37) lq_5 rfl (Nat.le_of_ble_eq_true rfl) (by decide +kernel))
theorem dl_358 : decode code 358 = .ok (.invokevirtual 44, 3) := dc_182 (a := 0) (b := 44) (dcc (r := 38) lq_5 rfl (Nat.le_of_ble_eq_true rfl) (by decide +kernel)) rfl
theorem dl_361 : decode code 361 = .ok (.pop, 1) := dc_87 (dcc (r := 41) lq_5 rfl (Nat.le_of_ble_eq_true rfl) (by decide +kernel))
theorem dl_362 : decode code 362 = .ok (.aload_n 2, 1) := dc_44 (dcc (r := 42) lq_5 rfl (Nat.le_of_ble_eq_true rfl) (by decide +kernel))
theorem dl_363 : decode code 363 = .ok (.aload_n 0, 1) := dc_42 (dcc (r := 43) lq_5 rfl (Nat.le_of_ble_eq_true rfl) (by decide +kernel))
theorem dl_364 : decode code 364 = .ok (.iload_n 3, 1) := dc_29 (dcc (r := 44) lq_5 rfl (Nat.le_of_ble_eq_true rfl) (by decide +kernel))
theorem dl_365 : decode code 365 = .ok (.iconst 1, 1) := dc_4 (dcc (r := 45) lq_5 rfl (Nat.le_of_ble_eq_true rfl) (by decide +kernel))
theorem dl_366 : decode code 366 = .ok (.iadd, 1) := dc_96 (dcc (r := 46) lq_5 rfl (Nat.le_of_ble_eq_true rfl) (by decide +kernel))
theorem dl_367 : decode code 367 = .ok (.iaload, 1) := dc_46 (dcc (r := 47) lq_5 rfl (Nat.le_of_ble_eq_true rfl) (by decide +kernel))
theorem dl_368 : decode code 368 = .ok (.aload_n 0, 1) := dc_42 (dcc (r := 48) lq_5 rfl (Nat.le_of_ble_eq_true rfl) (by decide +kernel))
theorem dl_369 : decode code 369 = .ok (.iload_n 3, 1) := dc_29 (dcc (r := 49) lq_5 rfl (Nat.le_of_ble_eq_true rfl) (by decide +kernel))
theorem dl_370 : decode code 370 = .ok (.iconst 2, 1) := dc_5 (dcc (r := 50) lq_5 rfl (Nat.le_of_ble_eq_true rfl) (by decide +kernel))
theorem dl_371 : decode code 371 = .ok (.iadd, 1) := dc_96 (dcc (r := 51) lq_5 rfl (Nat.le_of_ble_eq_true rfl) (by decide +kernel))
theorem dl_372 : decode code 372 = .ok (.iaload, 1) := dc_46 (dcc (r := 52) lq_5 rfl (Nat.le_of_ble_eq_true rfl) (by decide +kernel))
theorem dl_373 : decode code 373 = .ok (.invokevirtual 47, 3) := dc_182 (a := 0) (b := 47) (dcc (r := 53) lq_5 rfl (Nat.le_of_ble_eq_true rfl) (by decide +kernel)) rfl
theorem dl_376 : decode code 376 = .ok (.pop, 1) := dc_87 (dcc (r := 56) lq_5 rfl (Nat.le_of_ble_eq_true rfl) (by decide +kernel))
theorem dl_377 : decode code 377 = .ok (.goto 982, 3) := dc_167 (a := 3) (b := 214) (dcc (r := 57) lq_5 rfl (Nat.le_of_ble_eq_true rfl) (by decide +kernel)) rfl
theorem dl_380 : decode code 380 = .ok (.aload_n 1, 1) := dc_43 (dcc (r := 60) lq_5 rfl (Nat.le_of_ble_eq_true rfl) (by decide +kernel))
theorem dl_381 : decode code 381 = .ok (.aload_n 0, 1) := dc_42 (dcc (r := 61) lq_5 rfl (Nat.le_of_ble_eq_true rfl) (by decide +kernel))
theorem dl_382 : decode code 382 = .ok (.iload_n 3, 1) := dc_29 (dcc (r := 62) lq_5 rfl (Nat.le_of_ble_eq_true rfl) (by decide +kernel))
theorem dl_383 : decode code 383 = .ok (.iconst 1, 1) := dc_4 (dcc (r := 63) lq_5 rfl (Nat.le_of_ble_eq_true rfl) (by decide +kernel))
theorem dl_384 : decode code 384 = .ok (.iadd, 1) := dc_96 (dcc (r := 0) lq_6 rfl (Nat.le_of_ble_eq_true rfl) (by decide +kernel))
theorem dl_385 : decode code 385 = .ok (.iaload, 1) := dc_46 (dcc (r := 1) lq_6 rfl (Nat.le_of_ble_eq_true rfl) (by decide +kernel))
theorem dl_386 : decode code 386 = .ok (.aload_n 0, 1) := dc_42 (dcc (r := 2) lq_6 rfl (Nat.le_of_ble_eq_true rfl) (by decide +kernel))
theorem dl_387 : decode code 387 = .ok (.iload_n 3, 1) := dc_29 (dcc (r := 3) lq_6 rfl (Nat.le_of_ble_eq_true rfl) (by decide +kernel))
theorem dl_388 : decode code 388 = .ok (.iconst 2, 1) := dc_5 (dcc (r := 4) lq_6 rfl (Nat.le_of_ble_eq_true rfl) (by decide +kernel))
theorem dl_389 : decode code 389 = .ok (.iadd, 1) := dc_96 (dcc (r := 5) lq_6 rfl (Nat.le_of_ble_eq_true rfl) (by decide +kernel))
theorem dl_390 : decode code 390 = .ok (.iaload, 1) := dc_46 (dcc (r := 6) lq_6 rfl (Nat.le_of_ble_eq_true rfl) (by decide +kernel))
theorem dl_391 : decode code 391 = .ok (.ifCond .eq 7, 3) := dc_153 (a := 0) (b := 7) (dcc (r := 7) lq_6 rfl (Nat.le_of_ble_eq_true rfl) (by decide +kernel)) rfl
theorem dl_394 : decode code 394 = .ok (.iconst 1, 1) := dc_4 (dcc (r := 10) lq_6 rfl (Nat.le_of_ble_eq_true rfl) (by decide +kernel))
theorem dl_395 : decode code 395 = .ok (.goto 4, 3) := dc_167 (a := 0) (b := 4) (dcc (r := 11) lq_6 rfl (Nat.le_of_ble_eq_true rfl) (by decide +kernel)) rfl
theorem dl_398 : decode code 398 = .ok (.iconst 0, 1) := dc_3 (dcc (r := 14) lq_6 rfl (Nat.le_of_ble_eq_true rfl) (by decide +kernel))
theorem dl_399 : decode code 399 = .ok (.invokevirtual 48, 3) := dc_182 (a := 0) (b := 48) (dcc (r := 15) lq_6 rfl (Nat.le_of_ble_eq_true rfl) (by decide +kernel)) rfl
theorem dl_402 : decode code 402 = .ok (.pop, 1) := dc_87 (dcc (r := 18) lq_6 rfl (Nat.le_of_ble_eq_true rfl) (by decide +kernel))
theorem dl_403 : decode code 403 = .ok (.aload_n 2, 1) := dc_44 (dcc (r := 19) lq_6 rfl (Nat.le_of_ble_eq_true rfl) (by decide +kernel))
theorem dl_404 : decode code 404 = .ok (.aload_n 0, 1) := dc_42 (dcc (r := 20) lq_6 rfl (Nat.le_of_ble_eq_true rfl) (by decide +kernel))
theorem dl_405 : decode code 405 = .ok (.iload_n 3, 1) := dc_29 (dcc (r := 21) lq_6 rfl (Nat.le_of_ble_eq_true rfl) (by decide +kernel))
theorem dl_406 : decode code 406 = .ok (.iconst 1, 1) := dc_4 (dcc (r := 22) lq_6 rfl (Nat.le_of_ble_eq_true rfl) (by decide +kernel))
theorem dl_407 : decode code 407 = .ok (.iadd, 1) := dc_96 (dcc (r := 23) lq_6 rfl (Nat.le_of_ble_eq_true rfl) (by decide +kernel))
theorem dl_408 : decode code 408 = .ok (.iaload, 1) := dc_46 (dcc (r := 24) lq_6 rfl (Nat.le_of_ble_eq_true rfl) (by decide +kernel))
theorem dl_409 : decode code 409 = .ok (.aload_n 0, 1) := dc_42 (dcc (r := 25) lq_6 rfl (Nat.le_of_ble_eq_true rfl) (by decide +kernel))
theorem dl_410 : decode code 410 = .ok (.iload_n 3, 1) := dc_29 (dcc (r := 26) lq_6 rfl (Nat.le_of_ble_eq_true rfl) (by decide +kernel))
theorem dl_411 : decode code 411 = .ok (.iconst 2, 1) := dc_5 (dcc (r := 27) lq_6 rfl (Nat.le_of_ble_eq_true rfl) (by decide +kernel))
theorem dl_412 : decode code 412 = .ok (.iadd, 1) := dc_96 (dcc (r := 28) lq_6 rfl (Nat.le_of_ble_eq_true rfl) (by decide +kernel))
theorem dl_413 : decode code 413 = .ok (.iaload, 1) := dc_46 (dcc (r := 29) lq_6 rfl (Nat.le_of_ble_eq_true rfl) (by decide +kernel))
theorem dl_414 : decode code 414 = .ok (.ifCond .eq 7, 3) := dc_153 (a := 0) (b := 7) (dcc (r := 30) lq_6 rfl (Nat.le_of_ble_eq_true rfl) (by decide +kernel)) rfl
theorem dl_417 : decode code 417 = .ok (.iconst 1, 1) := dc_4 (dcc (r := 33) lq_6 rfl (Nat.le_of_ble_eq_true rfl) (by decide +kernel))
theorem dl_418 : decode code 418 = .ok (.goto 4, 3) := dc_167 (a := 0) (b := 4) (dcc (r := 34) lq_6 rfl (Nat.le_of_ble_eq_true rfl) (by decide +kernel)) rfl
theorem dl_421 : decode code 421 = .ok (.iconst 0, 1) := dc_3 (dcc (r := 37) lq_6 rfl (Nat.le_of_ble_eq_true rfl) (by decide +kernel))
theorem dl_422 : decode code 422 = .ok (.invokevirtual 52, 3) := dc_182 (a := 0) (b := 52) (dcc (r := 38) lq_6 rfl (Nat.le_of_ble_eq_true rfl) (by decide +kernel)) rfl
theorem dl_425 : decode code 425 = .ok (.pop, 1) := dc_87 (dcc (r := 41) lq_6 rfl (Nat.le_of_ble_eq_true rfl) (by decide +kernel))
theorem dl_426 : decode code 426 = .ok (.goto 933, 3) := dc_167 (a := 3) (b := 165) (dcc (r := 42) lq_6 rfl (Nat.le_of_ble_eq_true rfl) (by decide +kernel)) rfl
theorem dl_429 : decode code 429 = .ok (.aload_n 1, 1) := dc_43 (dcc (r := 45) lq_6 rfl (Nat.le_of_ble_eq_true rfl) (by decide +kernel))
theorem dl_430 : decode code 430 = .ok (.aload_n 0, 1) := dc_42 (dcc (r := 46) lq_6 rfl (Nat.le_of_ble_eq_true rfl) (by decide +kernel))
theorem dl_431 : decode code 431 = .ok (.iload_n 3, 1) := dc_29 (dcc (r := 47) lq_6 rfl (Nat.le_of_ble_eq_true rfl) (by decide +kernel))
theorem dl_432 : decode code 432 = .ok (.iconst 1, 1) := dc_4 (dcc (r := 48) lq_6 rfl (Nat.le_of_ble_eq_true rfl) (by decide +kernel))
theorem dl_433 : decode code 433 = .ok (.iadd, 1) := dc_96 (dcc (r := 49) lq_6 rfl (Nat.le_of_ble_eq_true rfl) (by decide +kernel))
theorem dl_434 : decode code 434 = .ok (.iaload, 1) := dc_46 (dcc (r := 50) lq_6 rfl (Nat.le_of_ble_eq_true rfl) (by decide +kernel))
theorem dl_435 : decode code 435 = .ok (.aload_n 0, 1) := dc_42 (dcc (r := 51) lq_6 rfl (Nat.le_of_ble_eq_true rfl) (by decide +kernel))
theorem dl_436 : decode code 436 = .ok (.iload_n 3, 1) := dc_29 (dcc (r := 52) lq_6 rfl (Nat.le_of_ble_eq_true rfl) (by decide +kernel))
theorem dl_437 : decode code 437 = .ok (.iconst 2, 1) := dc_5 (dcc (r := 53) lq_6 rfl (Nat.le_of_ble_eq_true rfl) (by decide +kernel))
theorem dl_438 : decode code 438 = .ok (.iadd, 1) := dc_96 (dcc (r := 54) lq_6 rfl (Nat.le_of_ble_eq_true rfl) (by decide +kernel))
theorem dl_439 : decode code 439 = .ok (.iaload, 1) := dc_46 (dcc (r := 55) lq_6 rfl (Nat.le_of_ble_eq_true rfl) (by decide +kernel))
theorem dl_440 : decode code 440 = .ok (.invokevirtual 53, 3) := dc_182 (a := 0) (b := 53) (dcc (r := 56) lq_6 rfl (Nat.le_of_ble_eq_true rfl) (by decide +kernel)) rfl
theorem dl_443 : decode code 443 = .ok (.pop, 1) := dc_87 (dcc (r := 59) lq_6 rfl (Nat.le_of_ble_eq_true rfl) (by decide +kernel))
theorem dl_444 : decode code 444 = .ok (.aload_n 2, 1) := dc_44 (dcc (r := 60) lq_6 rfl (Nat.le_of_ble_eq_true rfl) (by decide +kernel))
theorem dl_445 : decode code 445 = .ok (.aload_n 0, 1) := dc_42 (dcc (r := 61) lq_6 rfl (Nat.le_of_ble_eq_true rfl) (by decide +kernel))
theorem dl_446 : decode code 446 = .ok (.iload_n 3, 1) := dc_29 (dcc (r := 62) lq_6 rfl (Nat.le_of_ble_eq_true rfl) (by decide +kernel))
theorem dl_447 : decode code 447 = .ok (.iconst 1, 1) := dc_4 (dcc (r := 63) lq_6 rfl (Nat.le_of_ble_eq_true rfl) (by decide +kernel))
theorem dl_448 : decode code 448 = .ok (.iadd, 1) := dc_96 (dcc (r := 0) lq_7 rfl (Nat.le_of_ble_eq_true rfl) (by decide +kernel))
theorem dl_449 : decode code 449 = .ok (.iaload, 1) := dc_46 (dcc (r := 1) lq_7 rfl (Nat.le_of_ble_eq_true rfl) (by decide +kernel))
theorem dl_450 : decode code 450 = .ok (.aload_n 0, 1) := dc_42 (dcc (r := 2) lq_7 rfl (Nat.le_of_ble_eq_true rfl) (by decide +kernel))
theorem dl_451 : decode code 451 = .ok (.iload_n 3, 1) := dc_29 (dcc (r := 3) lq_7 rfl (Nat.le_of_ble_eq_true rfl) (by decide +kernel))
theorem dl_452 : decode code 452 = .ok (.iconst 2, 1) := dc_5 (dcc (r := 4) lq_7 rfl (Nat.le_of_ble_eq_true rfl) (by decide +kernel))
theorem dl_453 : decode code 453 = .ok (.iadd, 1) := dc_96 (dcc (r := 5) lq_7 rfl (Nat.le_of_ble_eq_true rfl) (by decide +kernel))
theorem dl_454 : decode code 454 = .ok (.iaload, 1) := dc_46 (dcc (r := 6) lq_7 rfl (Nat.le_of_ble_eq_true rfl) (by decide +kernel))
theorem dl_455 : decode code 455 = .ok (.invokevirtual 56, 3) := dc_182 (a := 0) (b := 56) (dcc (r := 7) lq_7 rfl (Nat.le_of_ble_eq_true rfl) (by decide +kernel)) rfl
theorem dl_458 : decode code 458 = .ok (.pop, 1) := dc_87 (dcc (r := 10) lq_7 rfl (Nat.le_of_ble_eq_true rfl) (by decide +kernel))
theorem dl_459 : decode code 459 = .ok (.goto 900, 3) := dc_167 (a := 3) (b := 132) (dcc (r := 11) lq_7 rfl (Nat.le_of_ble_eq_true rfl) (by decide +kernel)) rfl
theorem dl_462 : decode code 462 = .ok (.aload_n 1, 1) := dc_43 (dcc (r := 14) lq_7 rfl (Nat.le_of_ble_eq_true rfl) (by decide +kernel))
theorem dl_463 : decode code 463 = .ok (.aload_n 0, 1) := dc_42 (dcc (r := 15) lq_7 rfl (Nat.le_of_ble_eq_true rfl) (by decide +kernel))
theorem dl_464 : decode code 464 = .ok (.iload_n 3, 1) := dc_29 (dcc (r := 16) lq_7 rfl (Nat.le_of_ble_eq_true rfl) (by decide +kernel))
theorem dl_465 : decode code 465 = .ok (.iconst 1, 1) := dc_4 (dcc (r := 17) lq_7 rfl (Nat.le_of_ble_eq_true rfl) (by decide +kernel))
theorem dl_466 : decode code 466 = .ok (.iadd, 1) := dc_96 (dcc (r := 18) lq_7 rfl (Nat.le_of_ble_eq_true rfl) (by decide +kernel))
theorem dl_467 : decode code 467 = .ok (.iaload, 1) := dc_46 (dcc (r := 19) lq_7 rfl (Nat.le_of_ble_eq_true rfl) (by decide +kernel))
theorem dl_468 : decode code 468 = .ok (.aload_n 0, 1) := dc_42 (dcc (r := 20) lq_7 rfl (Nat.le_of_ble_eq_true rfl) (by decide +kernel))
theorem dl_469 : decode code 469 = .ok (.iload_n 3, 1) := dc_29 (dcc (r := 21) lq_7 rfl (Nat.le_of_ble_eq_true rfl) (by decide +kernel))
theorem dl_470 : decode code 470 = .ok (.iconst 2, 1) := dc_5 (dcc (r := 22) lq_7 rfl (Nat.le_of_ble_eq_true rfl) (by decide +kernel))
theorem dl_471 : decode code 471 = .ok (.iadd, 1) := dc_96 (dcc (r := 23) lq_7 rfl (Nat.le_of_ble_eq_true rfl) (by decide +kernel))
theorem dl_472 : decode code 472 = .ok (.iaload, 1) := dc_46 (dcc (r := 24) lq_7 rfl (Nat.le_of_ble_eq_true rfl) (by decide +kernel))
theorem dl_473 : decode code 473 = .ok (.invokevirtual 57, 3) := dc_182 (a := 0) (b := 57) (dcc (r := 25) lq_7 rfl (Nat.le_of_ble_eq_true rfl) (by decide +kernel)) rfl
theorem dl_476 : decode code 476 = .ok (.pop, 1) := dc_87 (dcc (r := 28) lq_7 rfl (Nat.le_of_ble_eq_true rfl) (by decide +kernel))
theorem dl_477 : decode code 477 = .ok (.aload_n 2, 1) := dc_44 (dcc (r := 29) lq_7 rfl (Nat.le_of_ble_eq_true rfl) (by decide +kernel))
theorem dl_478 : decode code 478 = .ok (.aload_n 0, 1) := dc_42 (dcc (r := 30) lq_7 rfl (Nat.le_of_ble_eq_true rfl) (by decide +kernel))
theorem dl_479 : decode code 479 = .ok (.iload_n 3, 1) := dc_29 (dcc (r := 31) lq_7 rfl (Nat.le_of_ble_eq_true rfl) (by decide +kernel))
theorem dl_480 : decode code 480 = .ok (.iconst 1, 1) := dc_4 (dcc (r := 32) lq_7 rfl (Nat.le_of_ble_eq_true rfl) (by decide +kernel))
theorem dl_481 : decode code 481 = .ok (.iadd, 1) := dc_96 (dcc (r := 33) lq_7 rfl (Nat.le_of_ble_eq_true rfl) (by decide +kernel))
theorem dl_482 : decode code 482 = .ok (.iaload, 1) := dc_46 (dcc (r := 34) lq_7 rfl (Nat.le_of_ble_eq_true rfl) (by decide +kernel))
theorem dl_483 : decode code 483 = .ok (.aload_n 0, 1) := dc_42 (dcc (r := 35) lq_7 rfl (Nat.le_of_ble_eq_true rfl) (by decide +kernel))
theorem dl_484 : decode code 484 = .ok (.iload_n 3, 1) := dc_29 (dcc (r := 36) lq_7 rfl (Nat.le_of_ble_eq_true rfl) (by decide +kernel))
theorem dl_485 : decode code 485 = .ok (.iconst 2, 1) := dc_5 (dcc (r := 37) lq_7 rfl (Nat.le_of_ble_eq_true rfl) (by decide +kernel))
theorem dl_486 : decode code 486 = .ok (.iadd, 1) := dc_96 (dcc (r := 38) lq_7 rfl (Nat.le_of_ble_eq_true rfl) (by decide +kernel))
theorem dl_487 : decode code 487 = .ok (.iaload, 1) := dc_46 (dcc (r := 39) lq_7 rfl (Nat.le_of_ble_eq_true rfl) (by decide +kernel))
theorem dl_488 : decode code 488 = .ok (.invokevirtual 60, 3) := dc_182 (a := 0) (b := 60) (dcc (r := 40) lq_7 rfl (Nat.le_of_ble_eq_true rfl) (by decide +kernel)) rfl
theorem dl_491 : decode code 491 = .ok (.pop, 1) := dc_87 (dcc (r := 43) lq_7 rfl (Nat.le_of_ble_eq_true rfl) (by decide +kernel))
theorem dl_492 : decode code 492 = .ok (.goto 867, 3) := dc_167 (a := 3) (b := 99) (dcc (r := 44) lq_7 rfl (Nat.le_of_ble_eq_true rfl) (by decide +kernel)) rfl
theorem dl_495 : decode code 495 = .ok (.aload_n 1, 1) := dc_43 (dcc (r := 47) lq_7 rfl (Nat.le_of_ble_eq_true rfl) (by decide +kernel))
theorem dl_496 : decode code 496 = .ok (.aload_n 0, 1) := dc_42 (dcc (r := 48) lq_7 rfl (Nat.le_of_ble_eq_true rfl) (by decide +kernel))
theorem dl_497 : decode code 497 = .ok (.iload_n 3, 1) := dc_29 (dcc (r := 49) lq_7 rfl (Nat.le_of_ble_eq_true rfl) (by decide +kernel))
theorem dl_498 : decode code 498 = .ok (.iconst 1, 1) := dc_4 (dcc (r := 50) lq_7 rfl (Nat.le_of_ble_eq_true rfl) (by decide +kernel))
theorem dl_499 : decode code 499 = .ok (.iadd, 1) := dc_96 (dcc (r := 51) lq_7 rfl (Nat.le_of_ble_eq_true rfl) (by decide +kernel))
theorem dl_500 : decode code 500 = .ok (.iaload, 1) := dc_46 (dcc (r := 52) lq_7 rfl (Nat.le_of_ble_eq_true rfl) (by decide +kernel))
theorem dl_501 : decode code 501 = .ok (.aload_n 0, 1) := dc_42 (dcc (r := 53) lq_7 rfl (Nat.le_of_ble_eq_true rfl) (by decide +kernel))
theorem dl_502 : decode code 502 = .ok (.iload_n 3, 1) := dc_29 (dcc (r := 54) lq_7 rfl (Nat.le_of_ble_eq_true rfl) (by decide +kernel))
theorem dl_503 : decode code 503 = .ok (.iconst 2, 1) := dc_5 (dcc (r := 55) lq_7 rfl (Nat.le_of_ble_eq_true rfl) (by decide +kernel))
theorem dl_504 : decode code 504 = .ok (.iadd, 1) := dc_96 (dcc (r := 56) lq_7 rfl (Nat.le_of_ble_eq_true rfl) (by decide +kernel))
theorem dl_505 : decode code 505 = .ok (.iaload, 1) := dc_46 (dcc (r := 57) lq_7 rfl (Nat.le_of_ble_eq_true rfl) (by decide +kernel))
theorem dl_506 : decode code 506 = .ok (.invokevirtual 61, 3) := dc_182 (a := 0) (b := 61) (dcc (r := 58) lq_7 rfl (Nat.le_of_ble_eq_true rfl) (by decide +kernel)) rfl
theorem dl_509 : decode code 509 = .ok (.pop, 1) := dc_87 (dcc (r := 61) lq_7 rfl (Nat.le_of_ble_eq_true rfl) (by decide +kernel))
theorem dl_510 : decode code 510 = .ok (.aload_n 2, 1) := dc_44 (dcc (r := 62) lq_7 rfl (Nat.le_of_ble_eq_true rfl) (by decide +kernel))
theorem dl_511 : decode code 511 = .ok (.aload_n 0, 1) := dc_42 (dcc (r := 63) lq_7 rfl (Nat.le_of_ble_eq_true rfl) (by decide +kernel))
theorem dl_512 : decode code 512 = .ok (.iload_n 3, 1) := dc_29 (dcc (r := 0) lq_8 rfl (Nat.le_of_ble_eq_true rfl) (by decide +kernel))
theorem dl_513 : decode code 513 = .ok (.iconst 1, 1) := dc_4 (dcc (r := 1) lq_8 rfl (Nat.le_of_ble_eq_true rfl) (by decide +kernel))
theorem dl_514 : decode code 514 = .ok (.iadd, 1) := dc_96 (dcc (r := 2) lq_8 rfl (Nat.le_of_ble_eq_true rfl) (by decide +kernel))
theorem dl_515 : decode code 515 = .ok (.iaload, 1) := dc_46 (dcc (r := 3) lq_8 rfl (Nat.le_of_ble_eq_true rfl) (by decide +kernel))
theorem dl_516 : decode code 516 = .ok (.aload_n 0, 1) := dc_42 (dcc (r := 4) lq_8 rfl (Nat.le_of_ble_eq_true rfl) (by decide +kernel))
theorem dl_517 : decode code 517 = .ok (.iload_n 3, 1) := dc_29 (dcc (r := 5) lq_8 rfl (Nat.le_of_ble_eq_true rfl) (by decide +kernel))
theorem dl_518 : decode code 518 = .ok (.iconst 2, 1) := dc_5 (dcc (r := 6) lq_8 rfl (Nat.le_of_ble_eq_true rfl) (by decide +kernel))
theorem dl_519 : decode code 519 = .ok (.iadd, 1) := dc_96 (dcc (r := 7) lq_8 rfl (Nat.le_of_ble_eq_true rfl) (by decide +kernel))
theorem dl_520 : decode code 520 = .ok (.iaload, 1) := dc_46 (dcc (r := 8) lq_8 rfl (Nat.le_of_ble_eq_true rfl) (by decide +kernel))
theorem dl_521 : decode code 521 = .ok (.invokevirtual 64, 3) := dc_182 (a := 0) (b := 64) (dcc (r := 9) lq_8 rfl (Nat.le_of_ble_eq_true rfl) (by decide +kernel)) rfl
theorem dl_524 : decode code 524 = .ok (.pop, 1) := dc_87 (dcc (r := 12) lq_8 rfl (Nat.le_of_ble_eq_true rfl) (by decide +kernel))
theorem dl_525 : decode code 525 = .ok (.goto 834, 3) := dc_167 (a := 3) (b := 66) (dcc (r := 13) lq_8 rfl (Nat.le_of_ble_eq_true rfl) (by decide +kernel)) rfl
theorem dl_528 : decode code 528 = .ok (.aload_n 1, 1) := dc_43 (dcc (r := 16) lq_8 rfl (Nat.le_of_ble_eq_true rfl) (by decide +kernel))
theorem dl_529 : decode code 529 = .ok (.aload_n 0, 1) := dc_42 (dcc (r := 17) lq_8 rfl (Nat.le_of_ble_eq_true rfl) (by decide +kernel))
theorem dl_530 : decode code 530 = .ok (.iload_n 3, 1) := dc_29 (dcc (r := 18) lq_8 rfl (Nat.le_of_ble_eq_true rfl) (by decide +kernel))
theorem dl_531 : decode code 531 = .ok (.iconst 1, 1) := dc_4 (dcc (r := 19) lq_8 rfl (Nat.le_of_ble_eq_true rfl) (by decide +kernel))
theorem dl_532 : decode code 532 = .ok (.iadd, 1) := dc_96 (dcc (r := 20) lq_8 rfl (Nat.le_of_ble_eq_true rfl) (by decide +kernel))
theorem dl_533 : decode code 533 = .ok (.iaload, 1) := dc_46 (dcc (r := 21) lq_8 rfl (Nat.le_of_ble_eq_true rfl) (by decide +kernel))
theorem dl_534 : decode code 534 = .ok (.aload_n 0, 1) := dc_42 (dcc (r := 22) lq_8 rfl (Nat.le_of_ble_eq_true rfl) (by decide +kernel))
theorem dl_535 : decode code 535 = .ok (.iload_n 3, 1) := dc_29 (dcc (r := 23) lq_8 rfl (Nat.le_of_ble_eq_true rfl) (by decide +kernel))
theorem dl_536 : decode code 536 = .ok (.iconst 2, 1) := dc_5 (dcc (r := 24) lq_8 rfl (Nat.le_of_ble_eq_true rfl) (by decide +kernel))
theorem dl_537 : decode code 537 = .ok (.iadd, 1) := dc_96 (dcc (r := 25) lq_8 rfl (Nat.le_of_ble_eq_true rfl) (by decide +kernel))
theorem dl_538 : decode code 538 = .ok (.iaload, 1) := dc_46 (dcc (r := 26) lq_8 rfl (Nat.le_of_ble_eq_true rfl) (by decide +kernel))
theorem dl_539 : decode code 539 = .ok (.invokevirtual 65, 3) := dc_182 (a := 0) (b := 65) (dcc (r := 27) lq_8 rfl (Nat.le_of_ble_eq_true rfl) (by decide +kernel)) rfl
theorem dl_542 : decode code 542 = .ok (.pop, 1) := dc_87 (dcc (r := 30) lq_8 rfl (Nat.le_of_ble_eq_true rfl) (by decide +kernel))
theorem dl_543 : decode code 543 = .ok (.aload_n 2, 1) := dc_44 (dcc (r := 31) lq_8 rfl (Nat.le_of_ble_eq_true rfl) (by decide +kernel))
theorem dl_544 : decode code 544 = .ok (.aload_n 0, 1) := dc_42 (dcc (r := 32) lq_8 rfl (Nat.le_of_ble_eq_true rfl) (by decide +kernel))
theorem dl_545 : decode code 545 = .ok (.iload_n 3, 1) := dc_29 (dcc (r := 33) lq_8 rfl (Nat.le_of_ble_eq_true rfl) (by decide +kernel))
theorem dl_546 : decode code 546 = .ok (.iconst 1, 1) := dc_4 (dcc (r := 34) lq_8 rfl (Nat.le_of_ble_eq_true rfl) (by decide +kernel))
theorem dl_547 : decode code 547 = .ok (.iadd, 1) := dc_96 (dcc (r := 35) lq_8 rfl (Nat.le_of_ble_eq_true rfl) (by decide +kernel))
theorem dl_548 : decode code 548 = .ok (.iaload, 1) := dc_46 (dcc (r := 36) lq_8 rfl (Nat.le_of_ble_eq_true rfl) (by decide +kernel))
theorem dl_549 : decode code 549 = .ok (.aload_n 0, 1) := dc_42 (dcc (r := 37) lq_8 rfl (Nat.le_of_ble_eq_true rfl) (by decide +kernel))
theorem dl_550 : decode code 550 = .ok (.iload_n 3, 1) := dc_29 (dcc (r := 38) lq_8 rfl (Nat.le_of_ble_eq_true rfl) (by decide +kernel))
theorem dl_551 : decode code 551 = .ok (.iconst 2, 1) := dc_5 (dcc (r := 39) lq_8 rfl (Nat.le_of_ble_eq_true rfl) (by decide +kernel))
theorem dl_552 : decode code 552 = .ok (.iadd, 1) := dc_96 (dcc (r := 40) lq_8 rfl (Nat.le_of_ble_eq_true rfl) (by decide +kernel))
theorem dl_553 : decode code 553 = .ok (.iaload, 1) := dc_46 (dcc (r := 41) lq_8 rfl (Nat.le_of_ble_eq_true rfl) (by decide +kernel))
theorem dl_554 : decode code 554 = .ok (.invokevirtual 68, 3) := dc_182 (a := 0) (b := 68) (dcc (r := 42) lq_8 rfl (Nat.le_of_ble_eq_true rfl) (by decide +kernel)) rfl
theorem dl_557 : decode code 557 = .ok (.pop, 1) := dc_87 (dcc (r := 45) lq_8 rfl (Nat.le_of_ble_eq_true rfl) (by decide +kernel))
theorem dl_558 : decode code 558 = .ok (.goto 801, 3) := dc_167 (a := 3) (b := 33) (dcc (r := 46) lq_8 rfl (Nat.le_of_ble_eq_true rfl) (by decide +kernel)) rfl
theorem dl_561 : decode code 561 = .ok (.aload_n 1, 1) := dc_43 (dcc (r := 49) lq_8 rfl (Nat.le_of_ble_eq_true rfl) (by decide +kernel))
theorem dl_562 : decode code 562 = .ok (.aload_n 0, 1) := dc_42 (dcc (r := 50) lq_8 rfl (Nat.le_of_ble_eq_true rfl) (by decide +kernel))
theorem dl_563 : decode code 563 = .ok (.iload_n 3, 1) := dc_29 (dcc (r := 51) lq_8 rfl (Nat.le_of_ble_eq_true rfl) (by decide +kernel))
theorem dl_564 : decode code 564 = .ok (.iconst 1, 1) := dc_4 (dcc (r := 52) lq_8 rfl (Nat.le_of_ble_eq_true rfl) (by decide +kernel))
theorem dl_565 : decode code 565 = .ok (.iadd, 1) := dc_96 (dcc (r := 53) lq_8 rfl (Nat.le_of_ble_eq_true rfl) (by decide +kernel))
theorem dl_566 : decode code 566 = .ok (.iaload, 1) := dc_46 (dcc (r := 54) lq_8 rfl (Nat.le_of_ble_eq_true rfl) (by decide +kernel))
theorem dl_567 : decode code 567 = .ok (.aload_n 0, 1) := dc_42 (dcc (r := 55) lq_8 rfl (Nat.le_of_ble_eq_true rfl) (by decide +kernel))
theorem dl_568 : decode code 568 = .ok (.iload_n 3, 1) := dc_29 (dcc (r := 56) lq_8 rfl (Nat.le_of_ble_eq_true rfl) (by decide +kernel))
theorem dl_569 : decode code 569 = .ok (.iconst 2, 1) := dc_5 (dcc (r := 57) lq_8 rfl (Nat.le_of_ble_eq_true rfl) (by decide +kernel))
theorem dl_570 : decode code 570 = .ok (.iadd, 1) := dc_96 (dcc (r := 58) lq_8 rfl (Nat.le_of_ble_eq_true rfl) (by decide +kernel))
theorem dl_571 : decode code 571 = .ok (.iaload, 1) := dc_46 (dcc (r := 59) lq_8 rfl (Nat.le_of_ble_eq_true rfl) (by decide +kernel))
theorem dl_572 : decode code 572 = .ok (.aload_n 0, 1) := dc_42 (dcc (r := 60) lq_8 rfl (Nat.le_of_ble_eq_true rfl) (by decide +kernel))
theorem dl_573 : decode code 573 = .ok (.iload_n 3, 1) := dc_29 (dcc (r := 61) lq_8 rfl (Nat.le_of_ble_eq_true rfl) (by decide +kernel))
theorem dl_574 : decode code 574 = .ok (.iconst 3, 1) := dc_6 (dcc (r := 62) lq_8 rfl (Nat.le_of_ble_eq_true rfl) (by decide +kernel))
theorem dl_575 : decode code 575 = .ok (.iadd, 1) := dc_96 (dcc (r := 63) lq_8 rfl (Nat.le_of_ble_eq_true rfl) (by decide +kernel))
theorem dl_576 : decode code 576 = .ok (.iaload, 1) := dc_46 (dcc (r := 0) lq_9 rfl (Nat.le_of_ble_eq_true rfl) (by decide +kernel))
theorem dl_577 : decode code 577 = .ok (.invokevirtual 69, 3) := dc_182 (a := 0) (b := 69) (dcc (r := 1) lq_9 rfl (Nat.le_of_ble_eq_true rfl) (by decide +kernel)) rfl
theorem dl_580 : decode code 580 = .ok (.pop, 1) := dc_87 (dcc (r := 4) lq_9 rfl (Nat.le_of_ble_eq_true rfl) (by decide +kernel))
theorem dl_581 : decode code 581 = .ok (.aload_n 2, 1) := dc_44 (dcc (r := 5) lq_9 rfl (Nat.le_of_ble_eq_true rfl) (by decide +kernel))
theorem dl_582 : decode code 582 = .ok (.aload_n 0, 1) := dc_42 (dcc (r := 6) lq_9 rfl (Nat.le_of_ble_eq_true rfl) (by decide +kernel))
theorem dl_583 : decode code 583 = .ok (.iload_n 3, 1) := dc_29 (dcc (r := 7) lq_9 rfl (Nat.le_of_ble_eq_true rfl) (by decide +kernel))
theorem dl_584 : decode code 584 = .ok (.iconst 1, 1) := dc_4 (dcc (r := 8) lq_9 rfl (Nat.le_of_ble_eq_true rfl) (by decide +kernel))
theorem dl_585 : decode code 585 = .ok (.iadd, 1) := dc_96 (dcc (r := 9) lq_9 rfl (Nat.le_of_ble_eq_true rfl) (by decide +kernel))
theorem dl_586 : decode code 586 = .ok (.iaload, 1) := dc_46 (dcc (r := 10) lq_9 rfl (Nat.le_of_ble_eq_true rfl) (by decide +kernel))
theorem dl_587 : decode code 587 = .ok (.aload_n 0, 1) := dc_42 (dcc (r := 11) lq_9 rfl (Nat.le_of_ble_eq_true rfl) (by decide +kernel))
theorem dl_588 : decode code 588 = .ok (.iload_n 3, 1) := dc_29 (dcc (r := 12) lq_9 rfl (Nat.le_of_ble_eq_true rfl) (by decide +kernel))
theorem dl_589 : decode code 589 = .ok (.iconst 2, 1) := dc_5 (dcc (r := 13) lq_9 rfl (Nat.le_of_ble_eq_true rfl) (by decide +kernel))
theorem dl_590 : decode code 590 = .ok (.iadd, 1) := dc_96 (dcc (r := 14) lq_9 rfl (Nat.le_of_ble_eq_true rfl) (by decide +kernel))
theorem dl_591 : decode code 591 = .ok (.iaload, 1) := dc_46 (dcc (r := 15) lq_9 rfl (Nat.le_of_ble_eq_true rfl) (by decide +kernel))
theorem dl_592 : decode code 592 = .ok (.aload_n 0, 1) := dc_42 (dcc (r := 16) lq_9 rfl (Nat.le_of_ble_eq_true rfl) (by decide +kernel))
theorem dl_593 : decode code 593 = .ok (.iload_n 3, 1) := dc_29 (dcc (r := 17) lq_9 rfl (Nat.le_of_ble_eq_true rfl) (by decide +kernel))
theorem dl_594 : decode code 594 = .ok (.iconst 3, 1) := dc_6 (dcc (r := 18) lq_9 rfl (Nat.le_of_ble_eq_true rfl) (by decide +kernel))
theorem dl_595 : decode code 595 = .ok (.iadd, 1) := dc_96 (dcc (r := 19) lq_9 rfl (Nat.le_of_ble_eq_true rfl) (by decide +kernel))
theorem dl_596 : decode code 596 = .ok (.iaload, 1) := dc_46 (dcc (r := 20) lq_9 rfl (Nat.le_of_ble_eq_true rfl) (by decide +kernel))
theorem dl_597 : decode code 597 = .ok (.invokevirtual 73, 3) := dc_182 (a := 0) (b := 73) (dcc (r := 21) lq_9 rfl (Nat.le_of_ble_eq_true rfl) (by decide +kernel)) rfl
theorem dl_600 : decode code 600 = .ok (.pop, 1) := dc_87 (dcc (r := 24) lq_9 rfl (Nat.le_of_ble_eq_true rfl) (by decide +kernel))
theorem dl_601 : decode code 601 = .ok (.goto 758, 3) := dc_167 (a := 2) (b := 246) (dcc (r := 25) lq_9 rfl (Nat.le_of_ble_eq_true rfl) (by decide +kernel)) rfl
theorem dl_604 : decode code 604 = .ok (.aload_n 1, 1) := dc_43 (dcc (r := 28) lq_9 rfl (Nat.le_of_ble_eq_true rfl) (by decide +kernel))
theorem dl_605 : decode code 605 = .ok (.aload_n 0, 1) := dc_42 (dcc (r := 29) lq_9 rfl (Nat.le_of_ble_eq_true rfl) (by decide +kernel))
theorem dl_606 : decode code 606 = .ok (.iload_n 3, 1) := dc_29 (dcc (r := 30) lq_9 rfl (Nat.le_of_ble_eq_true rfl) (by decide +kernel))
theorem dl_607 : decode code 607 = .ok (.iconst 1, 1) := dc_4 (dcc (r := 31) lq_9 rfl (Nat.le_of_ble_eq_true rfl) (by decide +kernel))
theorem dl_608 : decode code 608 = .ok (.iadd, 1) := dc_96 (dcc (r := 32) lq_9 rfl (Nat.le_of_ble_eq_true rfl) (by decide +kernel))
theorem dl_609 : decode code 609 = .ok (.iaload, 1) := dc_46 (dcc (r := 33) lq_9 rfl (Nat.le_of_ble_eq_true rfl) (by decide +kernel))
theorem dl_610 : decode code 610 = .ok (.invokevirtual 74, 3) := dc_182 (a := 0) (b := 74) (dcc (r := 34) lq_9 rfl (Nat.le_of_ble_eq_true rfl) (by decide +kernel)) rfl
theorem dl_613 : decode code 613 = .ok (.pop, 1) := dc_87 (dcc (r := 37) lq_9 rfl (Nat.le_of_ble_eq_true rfl) (by decide +kernel))
theorem dl_614 : decode code 614 = .ok (.aload_n 2, 1) := dc_44 (dcc (r := 38) lq_9 rfl (Nat.le_of_ble_eq_true rfl) (by decide +kernel))
theorem dl_615 : decode code 615 = .ok (.aload_n 0, 1) := dc_42 (dcc (r := 39) lq_9 rfl (Nat.le_of_ble_eq_true rfl) (by decide +kernel))
theorem dl_616 : decode code 616 = .ok (.iload_n 3, 1) := dc_29 (dcc (r := 40) lq_9 rfl (Nat.le_of_ble_eq_true rfl) (by decide +kernel))
theorem dl_617 : decode code 617 = .ok (.iconst 1, 1) := dc_4 (dcc (r := 41) lq_9 rfl (Nat.le_of_ble_eq_true rfl) (by decide +kernel))
theorem dl_618 : decode code 618 = .ok (.iadd, 1) := dc_96 (dcc (r := 42) lq_9 rfl (Nat.le_of_ble_eq_true rfl) (by decide +kernel))
theorem dl_619 : decode code 619 = .ok (.iaload, 1) := dc_46 (dcc (r := 43) lq_9 rfl (Nat.le_of_ble_eq_true rfl) (by decide +kernel))
theorem dl_620 : decode code 620 = .ok (.invokevirtual 77, 3) := dc_182 (a := 0) (b := 77) (dcc (r := 44) lq_9 rfl (Nat.le_of_ble_eq_true rfl) (by decide +kernel)) rfl
theorem dl_623 : decode code 623 = .ok (.pop, 1) := dc_87 (dcc (r := 47) lq_9 rfl (Nat.le_of_ble_eq_true rfl) (by decide +kernel))
theorem dl_624 : decode code 624 = .ok (.goto 735, 3) := dc_167 (a := 2) (b := 223) (dcc (r := 48) lq_9 rfl (Nat.le_of_ble_eq_true rfl) (by decide +kernel)) rfl
theorem dl_627 : decode code 627 = .ok (.aload_n 1, 1) := dc_43 (dcc (r := 51) lq_9 rfl (Nat.le_of_ble_eq_true rfl) (by decide +kernel))
theorem dl_628 : decode code 628 = .ok (.aload_n 0, 1) := dc_42 (dcc (r := 52) lq_9 rfl (Nat.le_of_ble_eq_true rfl) (by decide +kernel))
theorem dl_629 : decode code 629 = .ok (.iload_n 3, 1) := dc_29 (dcc (r := 53) lq_9 rfl (Nat.le_of_ble_eq_true rfl) (by decide +kernel))
theorem dl_630 : decode code 630 = .ok (.iconst 1, 1) := dc_4 (dcc (r := 54) lq_9 rfl (Nat.le_of_ble_eq_true rfl) (by decide +kernel))
theorem dl_631 : decode code 631 = .ok (.iadd, 1) := dc_96 (dcc (r := 55) lq_9 rfl (Nat.le_of_ble_eq_true rfl) (by decide +kernel))
theorem dl_632 : decode code 632 = .ok (.iaload, 1) := dc_46 (dcc (r := 56) lq_9 rfl (Nat.le_of_ble_eq_true rfl) (by decide +kernel))
theorem dl_633 : decode code 633 = .ok (.invokevirtual 78, 3) := dc_182 (a := 0) (b := 78) (dcc (r := 57) lq_9 rfl (Nat.le_of_ble_eq_true rfl) (by decide +kernel)) rfl
theorem dl_636 : decode code 636 = .ok (.pop, 1) := dc_87 (dcc (r := 60) lq_9 rfl (Nat.le_of_ble_eq_true rfl) (by decide +kernel))
theorem dl_637 : decode code 637 = .ok (.aload_n 2, 1) := dc_44 (dcc (r := 61) lq_9 rfl (Nat.le_of_ble_eq_true rfl) (by decide +kernel))
theorem dl_638 : decode code 638 = .ok (.aload_n 0, 1) := dc_42 (dcc (r := 62) lq_9 rfl (Nat.le_of_ble_eq_true rfl) (by decide +kernel))
theorem dl_639 : decode code 639 = .ok (.iload_n 3, 1) := dc_29 (dcc (r := 63) lq_9 rfl (Nat.le_of_ble_eq_true rfl) (by decide +kernel))
theorem dl_640 : decode code 640 = .ok (.iconst 1, 1) := dc_4 (dcc (r := 0) lq_10 rfl (Nat.le_of_ble_eq_true rfl) (by decide +kernel))
theorem dl_641 : decode code 641 = .ok (.iadd, 1) := dc_96 (dcc (r := 1) lq_10 rfl (Nat.le_of_ble_eq_true rfl) (by decide +kernel))
theorem dl_642 : decode code 642 = .ok (.iaload, 1) := dc_46 (dcc (r := 2) lq_10 rfl (Nat.le_of_ble_eq_true rfl) (by decide +kernel))
theorem dl_643 : decode code 643 = .ok (.invokevirtual 81, 3) := dc_182 (a := 0) (b := 81) (dcc (r := 3) lq_10 rfl (Nat.le_of_ble_eq_true rfl) (by decide +kernel)) rfl
theorem dl_646 : decode code 646 = .ok (.pop, 1) := dc_87 (dcc (r := 6) lq_10 rfl (Nat.le_of_ble_eq_true rfl) (by decide +kernel))
theorem dl_647 : decode code 647 = .ok (.goto 712, 3) := dc_167 (a := 2) (b := 200) (dcc (r := 7) lq_10 rfl (Nat.le_of_ble_eq_true rfl) (by decide +kernel)) rfl
theorem dl_650 : decode code 650 = .ok (.aload_n 1, 1) := dc_43 (dcc (r := 10) lq_10 rfl (Nat.le_of_ble_eq_true rfl) (by decide +kernel))
theorem dl_651 : decode code 651 = .ok (.aload_n 0, 1) := dc_42 (dcc (r := 11) lq_10 rfl (Nat.le_of_ble_eq_true rfl) (by decide +kernel))
theorem dl_652 : decode code 652 = .ok (.iload_n 3, 1) := dc_29 (dcc (r := 12) lq_10 rfl (Nat.le_of_ble_eq_true rfl) (by decide +kernel))
theorem dl_653 : decode code 653 = .ok (.iconst 1, 1) := dc_4 (dcc (r := 13) lq_10 rfl (Nat.le_of_ble_eq_true rfl) (by decide +kernel))
theorem dl_654 : decode code 654 = .ok (.iadd, 1) := dc_96 (dcc (r := 14) lq_10 rfl (Nat.le_of_ble_eq_true rfl) (by decide +kernel))
theorem dl_655 : decode code 655 = .ok (.iaload, 1) := dc_46 (dcc (r := 15) lq_10 rfl (Nat.le_of_ble_eq_true rfl) (by decide +kernel))
theorem dl_656 : decode code 656 = .ok (.aload_n 0, 1) := dc_42 (dcc (r := 16) lq_10 rfl (Nat.le_of_ble_eq_true rfl) (by decide +kernel))
theorem dl_657 : decode code 657 = .ok (.iload_n 3, 1) := dc_29 (dcc (r := 17) lq_10 rfl (Nat.le_of_ble_eq_true rfl) (by decide +kernel))
theorem dl_658 : decode code 658 = .ok (.iconst 2, 1) := dc_5 (dcc (r := 18) lq_10 rfl (Nat.le_of_ble_eq_true rfl) (by decide +kernel))
theorem dl_659 : decode code 659 = .ok (.iadd, 1) := dc_96 (dcc (r := 19) lq_10 rfl (Nat.le_of_ble_eq_true rfl) (by decide +kernel))
theorem dl_660 : decode code 660 = .ok (.iaload, 1) := dc_46 (dcc (r := 20) lq_10 rfl (Nat.le_of_ble_eq_true rfl) (by decide +kernel))
theorem dl_661 : decode code 661 = .ok (.aload_n 0, 1) := dc_42 (dcc (r := 21) lq_10 rfl (Nat.le_of_ble_eq_true rfl) (by decide +kernel))
theorem dl_662 : decode code 662 = .ok (.iload_n 3, 1) := dc_29 (dcc (r := 22) lq_10 rfl (Nat.le_of_ble_eq_true rfl) (by decide +kernel))
theorem dl_663 : decode code 663 = .ok (.iconst 3, 1) := dc_6 (dcc (r := 23) lq_10 rfl (Nat.le_of_ble_eq_true rfl) (by decide +kernel))
theorem dl_664 : decode code 664 = .ok (.iadd, 1) := dc_96 (dcc (r := 24) lq_10 rfl (Nat.le_of_ble_eq_true rfl) (by decide +kernel))
theorem dl_665 : decode code 665 = .ok (.iaload, 1) := dc_46 (dcc (r := 25) lq_10 rfl (Nat.le_of_ble_eq_true rfl) (by decide +kernel))
theorem dl_666 : decode code 666 = .ok (.invokevirtual 82, 3) := dc_182 (a := 0) (b := 82) (dcc (r := 26) lq_10 rfl (Nat.le_of_ble_eq_true rfl) (by decide +kernel)) rfl
theorem dl_669 : decode code 669 = .ok (.pop, 1) := dc_87 (dcc (r := 29) lq_10 rfl (Nat.le_of_ble_eq_true rfl) (by decide +kernel))
theorem dl_670 : decode code 670 = .ok (.aload_n 2, 1) := dc_44 (dcc (r := 30) lq_10 rfl (Nat.le_of_ble_eq_true rfl) (by decide +kernel))
theorem dl_671 : decode code 671 = .ok (.aload_n 0, 1) := dc_42 (dcc (r := 31) lq_10 rfl (Nat.le_of_ble_eq_true rfl) (by decide +kernel))
theorem dl_672 : decode code 672 = .ok (.iload_n 3, 1) := dc_29 (dcc (r := 32) lq_10 rfl (Nat.le_of_ble_eq_true rfl) (by decide +kernel))
theorem dl_673 : decode code 673 = .ok (.iconst 1, 1) := dc_4 (dcc (r := 33) lq_10 rfl (Nat.le_of_ble_eq_true rfl) (by decide +kernel))
theorem dl_674 : decode code 674 = .ok (.iadd, 1) := dc_96 (dcc (r := 34) lq_10 rfl (Nat.le_of_ble_eq_true rfl) (by decide +kernel))
theorem dl_675 : decode code 675 = .ok (.iaload, 1) := dc_46 (dcc (r := 35) lq_10 rfl (Nat.le_of_ble_eq_true rfl) (by decide +kernel))
theorem dl_676 : decode code 676 = .ok (.aload_n 0, 1) := dc_42 (dcc (r := 36) lq_10 rfl (Nat.le_of_ble_eq_true rfl) (by decide +kernel))
theorem dl_677 : decode code 677 = .ok (.iload_n 3, 1) := dc_29 (dcc (r := 37) lq_10 rfl (Nat.le_of_ble_eq_true rfl) (by decide +kernel))
theorem dl_678 : decode code 678 = .ok (.iconst 2, 1) := dc_5 (dcc (r := 38) lq_10 rfl (Nat.le_of_ble_eq_true rfl) (by decide +kernel))
theorem dl_679 : decode code 679 = .ok (.iadd, 1) := dc_96 (dcc (r := 39) lq_10 rfl (Nat.le_of_ble_eq_true rfl) (by decide +kernel))
theorem dl_680 : decode code 680 = .ok (.iaload, 1) := dc_46 (dcc (r := 40) lq_10 rfl (Nat.le_of_ble_eq_true rfl) (by decide +kernel))
theorem dl_681 : decode code 681 = .ok (.aload_n 0, 1) := dc_42 (dcc (r := 41) lq_10 rfl (Nat.le_of_ble_eq_true rfl) (by decide +kernel))
theorem dl_682 : decode code 682 = .ok (.iload_n 3, 1) := dc_29 (dcc (r := 42) lq_10 rfl (Nat.le_of_ble_eq_true rfl) (by decide +kernel))
theorem dl_683 : decode code 683 = .ok (.iconst 3, 1) := dc_6 (dcc (r := 43) lq_10 rfl (Nat.le_of_ble_eq_true rfl) (by decide +kernel))
theorem dl_684 : decode code 684 = .ok (.iadd, 1) := dc_96 (dcc (r := 44) lq_10 rfl (Nat.le_of_ble_eq_true rfl) (by decide +kernel))
theorem dl_685 : decode code 685 = .ok (.iaload, 1) := dc_46 (dcc (r := 45) lq_10 rfl (Nat.le_of_ble_eq_true rfl) (by decide +kernel))
theorem dl_686 : decode code 686 = .ok (.invokevirtual 85, 3) := dc_182 (a := 0) (b := 85) (dcc (r := 46) lq_10 rfl (Nat.le_of_ble_eq_true rfl) (by decide +kernel)) rfl
theorem dl_689 : decode code 689 = .ok (.pop, 1) := dc_87 (dcc (r := 49) lq_10 rfl (Nat.le_of_ble_eq_true rfl) (by decide +kernel))
theorem dl_690 : decode code 690 = .ok (.goto 669, 3) := dc_167 (a := 2) (b := 157) (dcc (r := 50) lq_10 rfl (Nat.le_of_ble_eq_true rfl) (by decide +kernel)) rfl
theorem dl_693 : decode code 693 = .ok (.aload_n 1, 1) := dc_43 (dcc (r := 53) lq_10 rfl (Nat.le_of_ble_eq_true rfl) (by decide +kernel))
theorem dl_694 : decode code 694 = .ok (.aload_n 0, 1) := dc_42 (dcc (r := 54) lq_10 rfl (Nat.le_of_ble_eq_true rfl) (by decide +kernel))
theorem dl_695 : decode code 695 = .ok (.iload_n 3, 1) := dc_29 (dcc (r := 55) lq_10 rfl (Nat.le_of_ble_eq_true rfl) (by decide +kernel))
theorem dl_696 : decode code 696 = .ok (.iconst 1, 1) := dc_4 (dcc (r := 56) lq_10 rfl (Nat.le_of_ble_eq_true rfl) (by decide +kernel))
theorem dl_697 : decode code 697 = .ok (.iadd, 1) := dc_96 (dcc (r := 57) lq_10 rfl (Nat.le_of_ble_eq_true rfl) (by decide +kernel))
theorem dl_698 : decode code 698 = .ok (.iaload, 1) := dc_46 (dcc (r := 58) lq_10 rfl (Nat.le_of_ble_eq_true rfl) (by decide +kernel))
theorem dl_699 : decode code 699 = .ok (.aload_n 0, 1) := dc_42 (dcc (r := 59) lq_10 rfl (Nat.le_of_ble_eq_true rfl) (by decide +kernel))
theorem dl_700 : decode code 700 = .ok (.iload_n 3, 1) := dc_29 (dcc (r := 60) lq_10 rfl (Nat.le_of_ble_eq_true rfl) (by decide +kernel))
theorem dl_701 : decode code 701 = .ok (.iconst 2, 1) := dc_5 (dcc (r := 61) lq_10 rfl (Nat.le_of_ble_eq_true rfl) (by decide +kernel))
theorem dl_702 : decode code 702 = .ok (.iadd, 1) := dc_96 (dcc (r := 62) lq_10 rfl (Nat.le_of_ble_eq_true rfl) (by decide +kernel))
theorem dl_703 : decode code 703 = .ok (.iaload, 1) := dc_46 (dcc (r := 63) lq_10 rfl (Nat.le_of_ble_eq_true rfl) (by decide +kernel))
theorem dl_704 : decode code 704 = .ok (.aload_n 0, 1) := dc_42 (dcc (r := 0) lq_11 rfl (Nat.le_of_ble_eq_true rfl) (by decide +kernel))
theorem dl_705 : decode code 705 = .ok (.iload_n 3, 1) := dc_29 (dcc (r := 1) lq_11 rfl (Nat.le_of_ble_eq_true rfl) (by decide +kernel))
theorem dl_706 : decode code 706 = .ok (.iconst 3, 1) := dc_6 (dcc (r := 2) lq_11 rfl (Nat.le_of_ble_eq_true rfl) (by decide +kernel))
theorem dl_707 : decode code 707 = .ok (.iadd, 1) := dc_96 (dcc (r := 3) lq_11 rfl (Nat.le_of_ble_eq_true rfl) (by decide +kernel))
theorem dl_708 : decode code 708 = .ok (.iaload, 1) := dc_46 (dcc (r := 4) lq_11 rfl (Nat.le_of_ble_eq_true rfl) (by decide +kernel))
theorem dl_709 : decode code 709 = .ok (.aload_n 0, 1) := dc_42 (dcc (r := 5) lq_11 rfl (Nat.le_of_ble_eq_true rfl) (by decide +kernel))
theorem dl_710 : decode code 710 = .ok (.iload_n 3, 1) := dc_29 (dcc (r := 6) lq_11 rfl (Nat.le_of_ble_eq_true rfl) (by decide +kernel))
theorem dl_711 : decode code 711 = .ok (.iconst 4, 1) := dc_7 (dcc (r := 7) lq_11 rfl (Nat.le_of_ble_eq_true rfl) (by decide +kernel))
theorem dl_712 : decode code 712 = .ok (.iadd, 1) := dc_96 (dcc (r := 8) lq_11 rfl (Nat.le_of_ble_eq_true rfl) (by decide +kernel))
theorem dl_713 : decode code 713 = .ok (.iaload, 1) := dc_46 (dcc (r := 9) lq_11 rfl (Nat.le_of_ble_eq_true rfl) (by decide +kernel))
theorem dl_714 : decode code 714 = .ok (.ifCond .eq 7, 3) := dc_153 (a := 0) (b := 7) (dcc (r := 10) lq_11 rfl (Nat.le_of_ble_eq_true rfl) (by decide +kernel)) rfl
theorem dl_717 : decode code 717 = .ok (.iconst 1, 1) := dc_4 (dcc (r := 13) lq_11 rfl (Nat.le_of_ble_eq_true rfl) (by decide +kernel))
theorem dl_718 : decode code 718 = .ok (.goto 4, 3) := dc_167 (a := 0) (b := 4) (dcc (r := 14) lq_11 rfl (Nat.le_of_ble_eq_true rfl) (by decide +kernel)) rfl
theorem dl_721 : decode code 721 = .ok (.iconst 0, 1) := dc_3 (dcc (r := 17) lq_11 rfl (Nat.le_of_ble_eq_true rfl) (by decide +kernel))
theorem dl_722 : decode code 722 = .ok (.invokevirtual 86, 3) := dc_182 (a := 0) (b := 86) (dcc (r := 18) lq_11 rfl (Nat.le_of_ble_eq_true rfl) (by decide +kernel)) rfl
theorem dl_725 : decode code 725 = .ok (.pop, 1) := dc_87 (dcc (r := 21) lq_11 rfl (Nat.le_of_ble_eq_true rfl) (by decide +kernel))
theorem dl_726 : decode code 726 = .ok (.aload_n 2, 1) := dc_44 (dcc (r := 22) lq_11 rfl (Nat.le_of_ble_eq_true rfl) (by decide +kernel))
theorem dl_727 : decode code 727 = .ok (.aload_n 0, 1) := dc_42 (dcc (r := 23) lq_11 rfl (Nat.le_of_ble_eq_true rfl) (by decide +kernel))
theorem dl_728 : decode code 728 = .ok (.iload_n 3, 1) := dc_29 (dcc (r := 24) lq_11 rfl (Nat.le_of_ble_eq_true rfl) (by decide +kernel))
theorem dl_729 : decode code 729 = .ok (.iconst 1, 1) := dc_4 (dcc (r := 25) lq_11 rfl (Nat.le_of_ble_eq_true rfl) (by decide +kernel))
theorem dl_730 : decode code 730 = .ok (.iadd, 1) := dc_96 (dcc (r := 26) lq_11 rfl (Nat.le_of_ble_eq_true rfl) (by decide +kernel))
theorem dl_731 : decode code 731 = .ok (.iaload, 1) := dc_46 (dcc (r := 27) lq_11 rfl (Nat.le_of_ble_eq_true rfl) (by decide +kernel))
theorem dl_732 : decode code 732 = .ok (.aload_n 0, 1) := dc_42 (dcc (r := 28) lq_11 rfl (Nat.le_of_ble_eq_true rfl) (by decide +kernel))
theorem dl_733 : decode code 733 = .ok (.iload_n 3, 1) := dc_29 (dcc (r := 29) lq_11 rfl (Nat.le_of_ble_eq_true rfl) (by decide +kernel))
theorem dl_734 : decode code 734 = .ok (.iconst 2, 1) := dc_5 (dcc (r := 30) lq_11 rfl (Nat.le_of_ble_eq_true rfl) (by decide +kernel))
theorem dl_735 : decode code 735 = .ok (.iadd, 1) := dc_96 (dcc (r := 31) lq_11 rfl (Nat.le_of_ble_eq_true rfl) (by decide +kernel))
theorem dl_736 : decode code 736 = .ok (.iaload, 1) := dc_46 (dcc (r := 32) lq_11 rfl (Nat.le_of_ble_eq_true rfl) (by decide +kernel))
theorem dl_737 : decode code 737 = .ok (.aload_n 0, 1) := dc_42 (dcc (r := 33) lq_11 rfl (Nat.le_of_ble_eq_true rfl) (by decide +kernel))
theorem dl_738 : decode code 738 = .ok (.iload_n 3, 1) := dc_29 (dcc (r := 34) lq_11 rfl (Nat.le_of_ble_eq_true rfl) (by decide +kernel))
theorem dl_739 : decode code 739 = .ok (.iconst 3, 1) := dc_6 (dcc (r := 35) lq_11 rfl (Nat.le_of_ble_eq_true rfl) (by decide +kernel))
theorem dl_740 : decode code 740 = .ok (.iadd, 1) := dc_96 (dcc (r := 36) lq_11 rfl (Nat.le_of_ble_eq_true rfl) (by decide +kernel))
theorem dl_741 : decode code 741 = .ok (.iaload, 1) := dc_46 (dcc (r := 37) lq_11 rfl (Nat.le_of_ble_eq_true rfl) (by decide +kernel))
theorem dl_742 : decode code 742 = .ok (.aload_n 0, 1) := dc_42 (dcc (r := 38) lq_11 rfl (Nat.le_of_ble_eq_true rfl) (by decide +kernel))
theorem dl_743 : decode code 743 = .ok (.iload_n 3, 1) := dc_29 (dcc (r := 39) lq_11 rfl (Nat.le_of_ble_eq_true rfl) (by decide +kernel))
theorem dl_744 : decode code 744 = .ok (.iconst 4, 1) := dc_7 (dcc (r := 40) lq_11 rfl (Nat.le_of_ble_eq_true rfl) (by decide +kernel))
theorem dl_745 : decode code 745 = .ok (.iadd, 1) := dc_96 (dcc (r := 41) lq_11 rfl (Nat.le_of_ble_eq_true rfl) (by decide +kernel))
theorem dl_746 : decode code 746 = .ok (.iaload, 1) := dc_46 (dcc (r := 42) lq_11 rfl (Nat.le_of_ble_eq_true rfl) (by decide +kernel))
theorem dl_747 : decode code 747 = .ok (.ifCond .eq 7, 3) := dc_153 (a := 0) (b := 7) (dcc (r := 43) lq_11 rfl (Nat.le_of_ble_eq_true rfl) (by decide +kernel)) rfl
theorem dl_750 : decode code 750 = .ok (.iconst 1, 1) := dc_4 (dcc (r := 46) lq_11 rfl (Nat.le_of_ble_eq_true rfl) (by decide +kernel))
theorem dl_751 : decode code 751 = .ok (.goto 4, 3) := dc_167 (a := 0) (b := 4) (dcc (r := 47) lq_11 rfl (Nat.le_of_ble_eq_true rfl) (by decide +kernel)) rfl
theorem dl_754 : decode code 754 = .ok (.iconst 0, 1) := dc_3 (dcc (r := 50) lq_11 rfl (Nat.le_of_ble_eq_true rfl) (by decide +kernel))
theorem dl_755 : decode code 755 = .ok (.invokevirtual 90, 3) := dc_182 (a := 0) (b := 90) (dcc (r := 51) lq_11 rfl (Nat.le_of_ble_eq_true rfl) (by decide +kernel)) rfl
theorem dl_758 : decode code 758 = .ok (.pop, 1) := dc_87 (dcc (r := 54) lq_11 rfl (Nat.le_of_ble_eq_true rfl) (by decide +kernel))
theorem dl_759 : decode code 759 = .ok (.goto 600, 3) := dc_167 (a := 2) (b := 88) (dcc (r := 55) lq_11 rfl (Nat.le_of_ble_eq_true rfl) (by decide +kernel)) rfl
theorem dl_762 : decode code 762 = .ok (.aload_n 1, 1) := dc_43 (dcc (r := 58) lq_11 rfl (Nat.le_of_ble_eq_true rfl) (by decide +kernel))
theorem dl_763 : decode code 763 = .ok (.aload_n 0, 1) := dc_42 (dcc (r := 59) lq_11 rfl (Nat.le_of_ble_eq_true rfl) (by decide +kernel))
theorem dl_764 : decode code 764 = .ok (.iload_n 3, 1) := dc_29 (dcc (r := 60) lq_11 rfl (Nat.le_of_ble_eq_true rfl) (by decide +kernel))
theorem dl_765 : decode code 765 = .ok (.iconst 1, 1) := dc_4 (dcc (r := 61) lq_11 rfl (Nat.le_of_ble_eq_true rfl) (by decide +kernel))
theorem dl_766 : decode code 766 = .ok (.iadd, 1) := dc_96 (dcc (r := 62) lq_11 rfl (Nat.le_of_ble_eq_true rfl) (by decide +kernel))
theorem dl_767 : decode code 767 = .ok (.iaload, 1) := dc_46 (dcc (r := 63) lq_11 rfl (Nat.le_of_ble_eq_true rfl) (by decide +kernel))
theorem dl_768 : decode code 768 = .ok (.invokevirtual 91, 3) := dc_182 (a := 0) (b := 91) (dcc (r := 0) lq_12 rfl (Nat.le_of_ble_eq_true rfl) (by decide +kernel)) rfl
theorem dl_771 : decode code 771 = .ok (.pop, 1) := dc_87 (dcc (r := 3) lq_12 rfl (Nat.le_of_ble_eq_true rfl) (by decide +kernel))
theorem dl_772 : decode code 772 = .ok (.aload_n 2, 1) := dc_44 (dcc (r := 4) lq_12 rfl (Nat.le_of_ble_eq_true rfl) (by decide +kernel))
theorem dl_773 : decode code 773 = .ok (.aload_n 0, 1) := dc_42 (dcc (r := 5) lq_12 rfl (Nat.le_of_ble_eq_true rfl) (by decide +kernel))
theorem dl_774 : decode code 774 = .ok (.iload_n 3, 1) := dc_29 (dcc (r := 6) lq_12 rfl (Nat.le_of_ble_eq_true rfl) (by decide +kernel))
theorem dl_775 : decode code 775 = .ok (.iconst 1, 1) := dc_4 (dcc (r := 7) lq_12 rfl (Nat.le_of_ble_eq_true rfl) (by decide +kernel))
theorem dl_776 : decode code 776 = .ok (.iadd, 1) := dc_96 (dcc (r := 8) lq_12 rfl (Nat.le_of_ble_eq_true rfl) (by decide +kernel))
theorem dl_777 : decode code 777 = .ok (.iaload, 1) := dc_46 (dcc (r := 9) lq_12 rfl (Nat.le_of_ble_eq_true rfl) (by decide +kernel))
theorem dl_778 : decode code 778 = .ok (.invokevirtual 94, 3) := dc_182 (a := 0) (b := 94) (dcc (r := 10) lq_12 rfl (Nat.le_of_ble_eq_true rfl) (by decide +kernel)) rfl
theorem dl_781 : decode code 781 = .ok (.pop, 1) := dc_87 (dcc (r := 13) lq_12 rfl (Nat.le_of_ble_eq_true rfl) (by decide +kernel))
theorem dl_782 : decode code 782 = .ok (.goto 577, 3) := dc_167 (a := 2) (b := 65) (dcc (r := 14) lq_12 rfl (Nat.le_of_ble_eq_true rfl) (by decide +kernel)) rfl
theorem dl_785 : decode code 785 = .ok (.aload_n 1, 1) := dc_43 (dcc (r := 17) lq_12 rfl (Nat.le_of_ble_eq_true rfl) (by decide +kernel))
theorem dl_786 : decode code 786 = .ok (.invokevirtual 95, 3) := dc_182 (a := 0) (b := 95) (dcc (r := 18) lq_12 rfl (Nat.le_of_ble_eq_true rfl) (by decide +kernel)) rfl
theorem dl_789 : decode code 789 = .ok (.pop, 1) := dc_87 (dcc (r := 21) lq_12 rfl (Nat.le_of_ble_eq_true rfl) (by decide +kernel))
theorem dl_790 : decode code 790 = .ok (.aload_n 2, 1) := dc_44 (dcc (r := 22) lq_12 rfl (Nat.le_of_ble_eq_true rfl) (by decide +kernel))
theorem dl_791 : decode code 791 = .ok (.invokevirtual 98, 3) := dc_182 (a := 0) (b := 98) (dcc (r := 23) lq_12 rfl (Nat.le_of_ble_eq_true rfl) (by decide +kernel)) rfl
theorem dl_794 : decode code 794 = .ok (.pop, 1) := dc_87 (dcc (r := 26) lq_12 rfl (Nat.le_of_ble_eq_true rfl) (by decide +kernel))
theorem dl_795 : decode code 795 = .ok (.goto 564, 3) := dc_167 (a := 2) (b := 52) (dcc (r := 27) lq_12 rfl (Nat.le_of_ble_eq_true rfl) (by decide +kernel)) rfl
theorem dl_798 : decode code 798 = .ok (.aload_n 1, 1) := dc_43 (dcc (r := 30) lq_12 rfl (Nat.le_of_ble_eq_true rfl) (by decide +kernel))
theorem dl_799 : decode code 799 = .ok (.aload_n 0, 1) := dc_42 (dcc (r := 31) lq_12 rfl (Nat.le_of_ble_eq_true rfl) (by decide +kernel))
theorem dl_800 : decode code 800 = .ok (.iload_n 3, 1) := dc_29 (dcc (r := 32) lq_12 rfl (Nat.le_of_ble_eq_true rfl) (by decide +kernel))
theorem dl_801 : decode code 801 = .ok (.iconst 1, 1) := dc_4 (dcc (r := 33) lq_12 rfl (Nat.le_of_ble_eq_true rfl) (by decide +kernel))
theorem dl_802 : decode code 802 = .ok (.iadd, 1) := dc_96 (dcc (r := 34) lq_12 rfl (Nat.le_of_ble_eq_true rfl) (by decide +kernel))
theorem dl_803 : decode code 803 = .ok (.iaload, 1) := dc_46 (dcc (r := 35) lq_12 rfl (Nat.le_of_ble_eq_true rfl) (by decide +kernel))
theorem dl_804 : decode code 804 = .ok (.invokevirtual 99, 3) := dc_182 (a := 0) (b := 99) (dcc (r := 36) lq_12 rfl (Nat.le_of_ble_eq_true rfl) (by decide +kernel)) rfl
theorem dl_807 : decode code 807 = .ok (.pop, 1) := dc_87 (dcc (r := 39) lq_12 rfl (Nat.le_of_ble_eq_true rfl) (by decide +kernel))
theorem dl_808 : decode code 808 = .ok (.aload_n 2, 1) := dc_44 (dcc (r := 40) lq_12 rfl (Nat.le_of_ble_eq_true rfl) (by decide +kernel))
theorem dl_809 : decode code 809 = .ok (.aload_n 0, 1) := dc_42 (dcc (r := 41) lq_12 rfl (Nat.le_of_ble_eq_true rfl) (by decide +kernel))
theorem dl_810 : decode code 810 = .ok (.iload_n 3, 1) := dc_29 (dcc (r := 42) lq_12 rfl (Nat.le_of_ble_eq_true rfl) (by decide +kernel))
theorem dl_811 : decode code 811 = .ok (.iconst 1, 1) := dc_4 (dcc (r := 43) lq_12 rfl (Nat.le_of_ble_eq_true rfl) (by decide +kernel))
theorem dl_812 : decode code 812 = .ok (.iadd, 1) := dc_96 (dcc (r := 44) lq_12 rfl (Nat.le_of_ble_eq_true rfl) (by decide +kernel))
theorem dl_813 : decode code 813 = .ok (.iaload, 1) := dc_46 (dcc (r := 45) lq_12 rfl (Nat.le_of_ble_eq_true rfl) (by decide +kernel))
theorem dl_814 : decode code 814 = .ok (.invokevirtual 102, 3) := dc_182 (a := 0) (b := 102) (dcc (r := 46) lq_12 rfl (Nat.le_of_ble_eq_true rfl) (by decide +kernel)) rfl
theorem dl_817 : decode code 817 = .ok (.pop, 1) := dc_87 (dcc (r := 49) lq_12 rfl (Nat.le_of_ble_eq_true rfl) (by decide +kernel))
theorem dl_818 : decode code 818 = .ok (.goto 541, 3) := dc_167 (a := 2) (b := 29) (dcc (r := 50) lq_12 rfl (Nat.le_of_ble_eq_true rfl) (by decide +kernel)) rfl
theorem dl_821 : decode code 821 = .ok (.aload_n 1, 1) := dc_43 (dcc (r := 53) lq_12 rfl (Nat.le_of_ble_eq_true rfl) (by decide +kernel))
theorem dl_822 : decode code 822 = .ok (.aload_n 0, 1) := dc_42 (dcc (r := 54) lq_12 rfl (Nat.le_of_ble_eq_true rfl) (by decide +kernel))
theorem dl_823 : decode code 823 = .ok (.iload_n 3, 1) := dc_29 (dcc (r := 55) lq_12 rfl (Nat.le_of_ble_eq_true rfl) (by decide +kernel))
theorem dl_824 : decode code 824 = .ok (.iconst 1, 1) := dc_4 (dcc (r := 56) lq_12 rfl (Nat.le_of_ble_eq_true rfl) (by decide +kernel))
theorem dl_825 : decode code 825 = .ok (.iadd, 1) := dc_96 (dcc (r := 57) lq_12 rfl (Nat.le_of_ble_eq_true rfl) (by decide +kernel))
theorem dl_826 : decode code 826 = .ok (.iaload, 1) := dc_46 (dcc (r := 58) lq_12 rfl (Nat.le_of_ble_eq_true rfl) (by decide +kernel))
theorem dl_827 : decode code 827 = .ok (.aload_n 0, 1) := dc_42 (dcc (r := 59) lq_12 rfl (Nat.le_of_ble_eq_true rfl) (by decide +kernel))
theorem dl_828 : decode code 828 = .ok (.iload_n 3, 1) := dc_29 (dcc (r := 60) lq_12 rfl (Nat.le_of_ble_eq_true rfl) (by decide +kernel))
theorem dl_829 : decode code 829 = .ok (.iconst 2, 1) := dc_5 (dcc (r := 61) lq_12 rfl (Nat.le_of_ble_eq_true rfl) (by decide +kernel))
theorem dl_830 : decode code 830 = .ok (.iadd, 1) := dc_96 (dcc (r := 62) lq_12 rfl (Nat.le_of_ble_eq_true rfl) (by decide +kernel))
theorem dl_831 : decode code 831 = .ok (.iaload, 1) := dc_46 (dcc (r := 63) lq_12 rfl (Nat.le_of_ble_eq_true rfl) (by decide +kernel))
theorem dl_832 : decode code 832 = .ok (.invokevirtual 103, 3) := dc_182 (a := 0) (b := 103) (dcc (r := 0) lq_13 rfl (Nat.le_of_ble_eq_true rfl) (by decide +kernel)) rfl
theorem dl_835 : decode code 835 = .ok (.pop, 1) := dc_87 (dcc (r := 3) lq_13 rfl (Nat.le_of_ble_eq_true rfl) (by decide +kernel))
theorem dl_836 : decode code 836 = .ok (.aload_n 2, 1) := dc_44 (dcc (r := 4) lq_13 rfl (Nat.le_of_ble_eq_true rfl) (by decide +kernel))
theorem dl_837 : decode code 837 = .ok (.aload_n 0, 1) := dc_42 (dcc (r := 5) lq_13 rfl (Nat.le_of_ble_eq_true rfl) (by decide +kernel))
theorem dl_838 : decode code 838 = .ok (.iload_n 3, 1) := dc_29 (dcc (r := 6) lq_13 rfl (Nat.le_of_ble_eq_true rfl) (by decide +kernel))
theorem dl_839 : decode code 839 = .ok (.iconst 1, 1) := dc_4 (dcc (r := 7) lq_13 rfl (Nat.le_of_ble_eq_true rfl) (by decide +kernel))
theorem dl_840 : decode code 840 = .ok (.iadd, 1) := dc_96 (dcc (r := 8) lq_13 rfl (Nat.le_of_ble_eq_true rfl) (by decide +kernel))
theorem dl_841 : decode code 841 = .ok (.iaload, 1) := dc_46 (dcc (r := 9) lq_13 rfl (Nat.le_of_ble_eq_true rfl) (by decide +kernel))
theorem dl_842 : decode code 842 = .ok (.aload_n 0, 1) := dc_42 (dcc (r := 10) lq_13 rfl (Nat.le_of_ble_eq_true rfl) (by decide +kernel))
theorem dl_843 : decode code 843 = .ok (.iload_n 3, 1) := dc_29 (dcc (r := 11) lq_13 rfl (Nat.le_of_ble_eq_true rfl) (by decide +kernel))
theorem dl_844 : decode code 844 = .ok (.iconst 2, 1) := dc_5 (dcc (r := 12) lq_13 rfl (Nat.le_of_ble_eq_true rfl) (by decide +kernel))
theorem dl_845 : decode code 845 = .ok (.iadd, 1) := dc_96 (dcc (r := 13) lq_13 rfl (Nat.le_of_ble_eq_true rfl) (by decide +kernel))
theorem dl_846 : decode code 846 = .ok (.iaload, 1) := dc_46 (dcc (r := 14) lq_13 rfl (Nat.le_of_ble_eq_true rfl) (by decide +kernel))
theorem dl_847 : decode code 847 = .ok (.invokevirtual 106, 3) := dc_182 (a := 0) (b := 106) (dcc (r := 15) lq_13 rfl (Nat.le_of_ble_eq_true rfl) (by decide +kernel)) rfl
theorem dl_850 : decode code 850 = .ok (.pop, 1) := dc_87 (dcc (r := 18) lq_13 rfl (Nat.le_of_ble_eq_true rfl) (by decide +kernel))
theorem dl_851 : decode code 851 = .ok (.goto 508, 3) := dc_167 (a := 1) (b := 252) (dcc (r := 19) lq_13 rfl (Nat.le_of_ble_eq_true rfl) (by decide +kernel)) rfl
theorem dl_854 : decode code 854 = .ok (.aload_n 1, 1) := dc_43 (dcc (r := 22) lq_13 rfl (Nat.le_of_ble_eq_true rfl) (by decide +kernel))
theorem dl_855 : decode code 855 = .ok (.aload_n 0, 1) := dc_42 (dcc (r := 23) lq_13 rfl (Nat.le_of_ble_eq_true rfl) (by decide +kernel))
theorem dl_856 : decode code 856 = .ok (.iload_n 3, 1) := dc_29 (dcc (r := 24) lq_13 rfl (Nat.le_of_ble_eq_true rfl) (by decide +kernel))
theorem dl_857 : decode code 857 = .ok (.iconst 1, 1) := dc_4 (dcc (r := 25) lq_13 rfl (Nat.le_of_ble_eq_true rfl) (by decide +kernel))
theorem dl_858 : decode code 858 = .ok (.iadd, 1) := dc_96 (dcc (r := 26) lq_13 rfl (Nat.le_of_ble_eq_true rfl) (by decide +kernel))
theorem dl_859 : decode code 859 = .ok (.iaload, 1) := dc_46 (dcc (r := 27) lq_13 rfl (Nat.le_of_ble_eq_true rfl) (by decide +kernel))
theorem dl_860 : decode code 860 = .ok (.aload_n 0, 1) := dc_42 (dcc (r := 28) lq_13 rfl (Nat.le_of_ble_eq_true rfl) (by decide +kernel))
theorem dl_861 : decode code 861 = .ok (.iload_n 3, 1) := dc_29 (dcc (r := 29) lq_13 rfl (Nat.le_of_ble_eq_true rfl) (by decide +kernel))
theorem dl_862 : decode code 862 = .ok (.iconst 2, 1) := dc_5 (dcc (r := 30) lq_13 rfl (Nat.le_of_ble_eq_true rfl) (by decide +kernel))
theorem dl_863 : decode code 863 = .ok (.iadd, 1) := dc_96 (dcc (r := 31) lq_13 rfl (Nat.le_of_ble_eq_true rfl) (by decide +kernel))
theorem dl_864 : decode code 864 = .ok (.iaload, 1) := dc_46 (dcc (r := 32) lq_13 rfl (Nat.le_of_ble_eq_true rfl) (by decide +kernel))
theorem dl_865 : decode code 865 = .ok (.aload_n 0, 1) := dc_42 (dcc (r := 33) lq_13 rfl (Nat.le_of_ble_eq_true rfl) (by decide +kernel))
theorem dl_866 : decode code 866 = .ok (.iload_n 3, 1) := dc_29 (dcc (r := 34) lq_13 rfl (Nat.le_of_ble_eq_true rfl) (by decide +kernel))
theorem dl_867 : decode code 867 = .ok (.iconst 3, 1) := dc_6 (dcc (r := 35) lq_13 rfl (Nat.le_of_ble_eq_true rfl) (by decide +kernel))
theorem dl_868 : decode code 868 = .ok (.iadd, 1) := dc_96 (dcc (r := 36) lq_13 rfl (Nat.le_of_ble_eq_true rfl) (by decide +kernel))
theorem dl_869 : decode code 869 = .ok (.iaload, 1) := dc_46 (dcc (r := 37) lq_13 rfl (Nat.le_of_ble_eq_true rfl) (by decide +kernel))
theorem dl_870 : decode code 870 = .ok (.aload_n 0, 1) := dc_42 (dcc (r := 38) lq_13 rfl (Nat.le_of_ble_eq_true rfl) (by decide +kernel))
theorem dl_871 : decode code 871 = .ok (.iload_n 3, 1) := dc_29 (dcc (r := 39) lq_13 rfl (Nat.le_of_ble_eq_true rfl) (by decide +kernel))
theorem dl_872 : decode code 872 = .ok (.iconst 4, 1) := dc_7 (dcc (r := 40) lq_13 rfl (Nat.le_of_ble_eq_true rfl) (by decide +kernel))
theorem dl_873 : decode code 873 = .ok (.iadd, 1) := dc_96 (dcc (r := 41) lq_13 rfl (Nat.le_of_ble_eq_true rfl) (by decide +kernel))
theorem dl_874 : decode code 874 = .ok (.iaload, 1) := dc_46 (dcc (r := 42) lq_13 rfl (Nat.le_of_ble_eq_true rfl) (by decide +kernel))
theorem dl_875 : decode code 875 = .ok (.invokevirtual 107, 3) := dc_182 (a := 0) (b := 107) (dcc (r := 43) lq_13 rfl (Nat.le_of_ble_eq_true rfl) (by decide +kernel)) rfl
theorem dl_878 : decode code 878 = .ok (.pop, 1) := dc_87 (dcc (r := 46) lq_13 rfl (Nat.le_of_ble_eq_true rfl) (by decide +kernel))
theorem dl_879 : decode code 879 = .ok (.aload_n 2, 1) := dc_44 (dcc (r := 47) lq_13 rfl (Nat.le_of_ble_eq_true rfl) (by decide +kernel))
theorem dl_880 : decode code 880 = .ok (.aload_n 0, 1) := dc_42 (dcc (r := 48) lq_13 rfl (Nat.le_of_ble_eq_true rfl) (by decide +kernel))
theorem dl_881 : decode code 881 = .ok (.iload_n 3, 1) := dc_29 (dcc (r := 49) lq_13 rfl (Nat.le_of_ble_eq_true rfl) (by decide +kernel))
theorem dl_882 : decode code 882 = .ok (.iconst 1, 1) := dc_4 (dcc (r := 50) lq_13 rfl (Nat.le_of_ble_eq_true rfl) (by decide +kernel))
theorem dl_883 : decode code 883 = .ok (.iadd, 1) := dc_96 (dcc (r := 51) lq_13 rfl (Nat.le_of_ble_eq_true rfl) (by decide +kernel))
theorem dl_884 : decode code 884 = .ok (.iaload, 1) := dc_46 (dcc (r := 52) lq_13 rfl (Nat.le_of_ble_eq_true rfl) (by decide +kernel))
theorem dl_885 : decode code 885 = .ok (.aload_n 0, 1) := dc_42 (dcc (r := 53) lq_13 rfl (Nat.le_of_ble_eq_true rfl) (by decide +kernel))
theorem dl_886 : decode code 886 = .ok (.iload_n 3, 1) := dc_29 (dcc (r := 54) lq_13 rfl (Nat.le_of_ble_eq_true rfl) (by decide +kernel))
theorem dl_887 : decode code 887 = .ok (.iconst 2, 1) := dc_5 (dcc (r := 55) lq_13 rfl (Nat.le_of_ble_eq_true rfl) (by decide +kernel))
theorem dl_888 : decode code 888 = .ok (.iadd, 1) := dc_96 (dcc (r := 56) lq_13 rfl (Nat.le_of_ble_eq_true rfl) (by decide +kernel))
theorem dl_889 : decode code 889 = .ok (.iaload, 1) := dc_46 (dcc (r := 57) lq_13 rfl (Nat.le_of_ble_eq_true rfl) (by decide +kernel))
theorem dl_890 : decode code 890 = .ok (.aload_n 0, 1) := dc_42 (dcc (r := 58) lq_13 rfl (Nat.le_of_ble_eq_true rfl) (by decide +kernel))
theorem dl_891 : decode code 891 = .ok (.iload_n 3, 1) := dc_29 (dcc (r := 59) lq_13 rfl (Nat.le_of_ble_eq_true rfl) (by decide +kernel))
theorem dl_892 : decode code 892 = .ok (.iconst 3, 1) := dc_6 (dcc (r := 60) lq_13 rfl (Nat.le_of_ble_eq_true rfl) (by decide +kernel))
theorem dl_893 : decode code 893 = .ok (.iadd, 1) := dc_96 (dcc (r := 61) lq_13 rfl (Nat.le_of_ble_eq_true rfl) (by decide +kernel))
theorem dl_894 : decode code 894 = .ok (.iaload, 1) := dc_46 (dcc (r := 62) lq_13 rfl (Nat.le_of_ble_eq_true rfl) (by decide +kernel))
theorem dl_895 : decode code 895 = .ok (.aload_n 0, 1) := dc_42 (dcc (r := 63) lq_13 rfl (Nat.le_of_ble_eq_true rfl) (by decide +kernel))
theorem dl_896 : decode code 896 = .ok (.iload_n 3, 1) := dc_29 (dcc (r := 0) lq_14 rfl (Nat.le_of_ble_eq_true rfl) (by decide +kernel))
theorem dl_897 : decode code 897 = .ok (.iconst 4, 1) := dc_7 (dcc (r := 1) lq_14 rfl (Nat.le_of_ble_eq_true rfl) (by decide +kernel))
theorem dl_898 : decode code 898 = .ok (.iadd, 1) := dc_96 (dcc (r := 2) lq_14 rfl (Nat.le_of_ble_eq_true rfl) (by decide +kernel))
theorem dl_899 : decode code 899 = .ok (.iaload, 1) := dc_46 (dcc (r := 3) lq_14 rfl (Nat.le_of_ble_eq_true rfl) (by decide +kernel))
theorem dl_900 : decode code 900 = .ok (.invokevirtual 111, 3) := dc_182 (a := 0) (b := 111) (dcc (r := 4) lq_14 rfl (Nat.le_of_ble_eq_true rfl) (by decide +kernel)) rfl
theorem dl_903 : decode code 903 = .ok (.pop, 1) := dc_87 (dcc (r := 7) lq_14 rfl (Nat.le_of_ble_eq_true rfl) (by decide +kernel))
theorem dl_904 : decode code 904 = .ok (.goto 455, 3) := dc_167 (a := 1) (b := 199) (dcc (r := 8) lq_14 rfl (Nat.le_of_ble_eq_true rfl) (by decide +kernel)) rfl
theorem dl_907 : decode code 907 = .ok (.aload_n 1, 1) := dc_43 (dcc (r := 11) lq_14 rfl (Nat.le_of_ble_eq_true rfl) (by decide +kernel))
theorem dl_908 : decode code 908 = .ok (.aload_n 0, 1) := dc_42 (dcc (r := 12) lq_14 rfl (Nat.le_of_ble_eq_true rfl) (by decide +kernel))
theorem dl_909 : decode code 909 = .ok (.iload_n 3, 1) := dc_29 (dcc (r := 13) lq_14 rfl (Nat.le_of_ble_eq_true rfl) (by decide +kernel))
theorem dl_910 : decode code 910 = .ok (.iconst 1, 1) := dc_4 (dcc (r := 14) lq_14 rfl (Nat.le_of_ble_eq_true rfl) (by decide +kernel))
theorem dl_911 : decode code 911 = .ok (.iadd, 1) := dc_96 (dcc (r := 15) lq_14 rfl (Nat.le_of_ble_eq_true rfl) (by decide +kernel))
theorem dl_912 : decode code 912 = .ok (.iaload, 1) := dc_46 (dcc (r := 16) lq_14 rfl (Nat.le_of_ble_eq_true rfl) (by decide +kernel))
theorem dl_913 : decode code 913 = .ok (.aload_n 0, 1) := dc_42 (dcc (r := 17) lq_14 rfl (Nat.le_of_ble_eq_true rfl) (by decide +kernel))
theorem dl_914 : decode code 914 = .ok (.iload_n 3, 1) := dc_29 (dcc (r := 18) lq_14 rfl (Nat.le_of_ble_eq_true rfl) (by decide +kernel))
theorem dl_915 : decode code 915 = .ok (.iconst 2, 1) := dc_5 (dcc (r := 19) lq_14 rfl (Nat.le_of_ble_eq_true rfl) (by decide +kernel))
theorem dl_916 : decode code 916 = .ok (.iadd, 1) := dc_96 (dcc (r := 20) lq_14 rfl (Nat.le_of_ble_eq_true rfl) (by decide +kernel))
theorem dl_917 : decode code 917 = .ok (.iaload, 1) := dc_46 (dcc (r := 21) lq_14 rfl (Nat.le_of_ble_eq_true rfl) (by decide +kernel))
theorem dl_918 : decode code 918 = .ok (.aload_n 0, 1) := dc_42 (dcc (r := 22) lq_14 rfl (Nat.le_of_ble_eq_true rfl) (by decide +kernel))
theorem dl_919 : decode code 919 = .ok (.iload_n 3, 1) := dc_29 (dcc (r := 23) lq_14 rfl (Nat.le_of_ble_eq_true rfl) (by decide +kernel))
theorem dl_920 : decode code 920 = .ok (.iconst 3, 1) := dc_6 (dcc (r := 24) lq_14 rfl (Nat.le_of_ble_eq_true rfl) (by decide +kernel))
theorem dl_921 : decode code 921 = .ok (.iadd, 1) := dc_96 (dcc (r := 25) lq_14 rfl (Nat.le_of_ble_eq_true rfl) (by decide +kernel))
theorem dl_922 : decode code 922 = .ok (.iaload, 1) := dc_46 (dcc (r := 26) lq_14 rfl (Nat.le_of_ble_eq_true rfl) (by decide +kernel))
theorem dl_923 : decode code 923 = .ok (.invokevirtual 112, 3) := dc_182 (a := 0) (b := 112) (dcc (r := 27) lq_14 rfl (Nat.le_of_ble_eq_true rfl) (by decide +kernel)) rfl
theorem dl_926 : decode code 926 = .ok (.pop, 1) := dc_87 (dcc (r := 30) lq_14 rfl (Nat.le_of_ble_eq_true rfl) (by decide +kernel))
theorem dl_927 : decode code 927 = .ok (.aload_n 2, 1) := dc_44 (dcc (r := 31) lq_14 rfl (Nat.le_of_ble_eq_true rfl) (by decide +kernel))
theorem dl_928 : decode code 928 = .ok (.aload_n 0, 1) := dc_42 (dcc (r := 32) lq_14 rfl (Nat.le_of_ble_eq_true rfl) (by decide +kernel))
theorem dl_929 : decode code 929 = .ok (.iload_n 3, 1) := dc_29 (dcc (r := 33) lq_14 rfl (Nat.le_of_ble_eq_true rfl) (by decide +kernel))
theorem dl_930 : decode code 930 = .ok (.iconst 1, 1) := dc_4 (dcc (r := 34) lq_14 rfl (Nat.le_of_ble_eq_true rfl) (by decide +kernel))
theorem dl_931 : decode code 931 = .ok (.iadd, 1) := dc_96 (dcc (r := 35) lq_14 rfl (Nat.le_of_ble_eq_true rfl) (by decide +kernel))
theorem dl_932 : decode code 932 = .ok (.iaload, 1) := dc_46 (dcc (r := 36) lq_14 rfl (Nat.le_of_ble_eq_true rfl) (by decide +kernel))
theorem dl_933 : decode code 933 = .ok (.aload_n 0, 1) := dc_42 (dcc (r := 37) lq_14 rfl (Nat.le_of_ble_eq_true rfl) (by decide +kernel))
theorem dl_934 : decode code 934 = .ok (.iload_n 3, 1) := dc_29 (dcc (r := 38) lq_14 rfl (Nat.le_of_ble_eq_true rfl) (by decide +kernel))
theorem dl_935 : decode code 935 = .ok (.iconst 2, 1) := dc_5 (dcc (r := 39) lq_14 rfl (Nat.le_of_ble_eq_true rfl) (by decide +kernel))
theorem dl_936 : decode code 936 = .ok (.iadd, 1) := dc_96 (dcc (r := 40) lq_14 rfl (Nat.le_of_ble_eq_true rfl) (by decide +kernel))
theorem dl_937 : decode code 937 = .ok (.iaload, 1) := dc_46 (dcc (r := 41) lq_14 rfl (Nat.le_of_ble_eq_true rfl) (by decide +kernel))
theorem dl_938 : decode code 938 = .ok (.aload_n 0, 1) := dc_42 (dcc (r := 42) lq_14 rfl (Nat.le_of_ble_eq_true rfl) (by decide +kernel))
theorem dl_939 : decode code 939 = .ok (.iload_n 3, 1) := dc_29 (dcc (r := 43) lq_14 rfl (Nat.le_of_ble_eq_true rfl) (by decide +kernel))
theorem dl_940 : decode code 940 = .ok (.iconst 3, 1) := dc_6 (dcc (r := 44) lq_14 rfl (Nat.le_of_ble_eq_true rfl) (by decide +kernel))
theorem dl_941 : decode code 941 = .ok (.iadd, 1) := dc_96 (dcc (r := 45) lq_14 rfl (Nat.le_of_ble_eq_true rfl) (by decide +kernel))
theorem dl_942 : decode code 942 = .ok (.iaload, 1) := dc_46 (dcc (r := 46) lq_14 rfl (Nat.le_of_ble_eq_true rfl) (by decide +kernel))
theorem dl_943 : decode code 943 = .ok (.invokevirtual 115, 3) := dc_182 (a := 0) (b := 115) (dcc (r := 47) lq_14 rfl (Nat.le_of_ble_eq_true rfl) (by decide +kernel)) rfl
theorem dl_946 : decode code 946 = .ok (.pop, 1) := dc_87 (dcc (r := 50) lq_14 rfl (Nat.le_of_ble_eq_true rfl) (by decide +kernel))
theorem dl_947 : decode code 947 = .ok (.goto 412, 3) := dc_167 (a := 1) (b := 156) (dcc (r := 51) lq_14 rfl (Nat.le_of_ble_eq_true rfl) (by decide +kernel)) rfl
theorem dl_950 : decode code 950 = .ok (.aload_n 1, 1) := dc_43 (dcc (r := 54) lq_14 rfl (Nat.le_of_ble_eq_true rfl) (by decide +kernel))
theorem dl_951 : decode code 951 = .ok (.aload_n 0, 1) := dc_42 (dcc (r := 55) lq_14 rfl (Nat.le_of_ble_eq_true rfl) (by decide +kernel))
theorem dl_952 : decode code 952 = .ok (.iload_n 3, 1) := dc_29 (dcc (r := 56) lq_14 rfl (Nat.le_of_ble_eq_true rfl) (by decide +kernel))
theorem dl_953 : decode code 953 = .ok (.iconst 1, 1) := dc_4 (dcc (r := 57) lq_14 rfl (Nat.le_of_ble_eq_true rfl) (by decide +kernel))
theorem dl_954 : decode code 954 = .ok (.iadd, 1) := dc_96 (dcc (r := 58) lq_14 rfl (Nat.le_of_ble_eq_true rfl) (by decide +kernel))
theorem dl_955 : decode code 955 = .ok (.iaload, 1) := dc_46 (dcc (r := 59) lq_14 rfl (Nat.le_of_ble_eq_true rfl) (by decide +kernel))
theorem dl_956 : decode code 956 = .ok (.aload_n 0, 1) := dc_42 (dcc (r := 60) lq_14 rfl (Nat.le_of_ble_eq_true rfl) (by decide +kernel))
theorem dl_957 : decode code 957 = .ok (.iload_n 3, 1) := dc_29 (dcc (r := 61) lq_14 rfl (Nat.le_of_ble_eq_true rfl) (by decide +kernel))
theorem dl_958 : decode code 958 = .ok (.iconst 2, 1) := dc_5 (dcc (r := 62) lq_14 rfl (Nat.le_of_ble_eq_true rfl) (by decide +kernel))
theorem dl_959 : decode code 959 = .ok (.iadd, 1) := dc_96 (dcc (r := 63) lq_14 rfl (Nat.le_of_ble_eq_true rfl) (by decide +kernel))
theorem dl_960 : decode code 960 = .ok (.iaload, 1) := dc_46 (dcc (r := 0) lq_15 rfl (Nat.le_of_ble_eq_true rfl) (by decide +kernel))
theorem dl_961 : decode code 961 = .ok (.aload_n 0, 1) := dc_42 (dcc (r := 1) lq_15 rfl (Nat.le_of_ble_eq_true rfl) (by decide +kernel))
theorem dl_962 : decode code 962 = .ok (.iload_n 3, 1) := dc_29 (dcc (r := 2) lq_15 rfl (Nat.le_of_ble_eq_true rfl) (by decide +kernel))
theorem dl_963 : decode code 963 = .ok (.iconst 3, 1) := dc_6 (dcc (r := 3) lq_15 rfl (Nat.le_of_ble_eq_true rfl) (by decide +kernel))
theorem dl_964 : decode code 964 = .ok (.iadd, 1) := dc_96 (dcc (r := 4) lq_15 rfl (Nat.le_of_ble_eq_true rfl) (by decide +kernel))
theorem dl_965 : decode code 965 = .ok (.iaload, 1) := dc_46 (dcc (r := 5) lq_15 rfl (Nat.le_of_ble_eq_true rfl) (by decide +kernel))
theorem dl_966 : decode code 966 = .ok (.aload_n 0, 1) := dc_42 (dcc (r := 6) lq_15 rfl (Nat.le_of_ble_eq_true rfl) (by decide +kernel))
theorem dl_967 : decode code 967 = .ok (.iload_n 3, 1) := dc_29 (dcc (r := 7) lq_15 rfl (Nat.le_of_ble_eq_true rfl) (by decide +kernel))
theorem dl_968 : decode code 968 = .ok (.iconst 4, 1) := dc_7 (dcc (r := 8) lq_15 rfl (Nat.le_of_ble_eq_true rfl) (by decide +kernel))
theorem dl_969 : decode code 969 = .ok (.iadd, 1) := dc_96 (dcc (r := 9) lq_15 rfl (Nat.le_of_ble_eq_true rfl) (by decide +kernel))
theorem dl_970 : decode code 970 = .ok (.iaload, 1) := dc_46 (dcc (r := 10) lq_15 rfl (Nat.le_of_ble_eq_true rfl) (by decide +kernel))
theorem dl_971 : decode code 971 = .ok (.invokevirtual 116, 3) := dc_182 (a := 0) (b := 116) (dcc (r := 11) lq_15 rfl (Nat.le_of_ble_eq_true rfl) (by decide +kernel)) rfl
theorem dl_974 : decode code 974 = .ok (.pop2, 1) := dc_88 (dcc (r := 14) lq_15 rfl (Nat.le_of_ble_eq_true rfl) (by decide +kernel))
theorem dl_975 : decode code 975 = .ok (.aload_n 2, 1) := dc_44 (dcc (r := 15) lq_15 rfl (Nat.le_of_ble_eq_true rfl) (by decide +kernel))
theorem dl_976 : decode code 976 = .ok (.aload_n 0, 1) := dc_42 (dcc (r := 16) lq_15 rfl (Nat.le_of_ble_eq_true rfl) (by decide +kernel))
theorem dl_977 : decode code 977 = .ok (.iload_n 3, 1) := dc_29 (dcc (r := 17) lq_15 rfl (Nat.le_of_ble_eq_true rfl) (by decide +kernel))
theorem dl_978 : decode code 978 = .ok (.iconst 1, 1) := dc_4 (dcc (r := 18) lq_15 rfl (Nat.le_of_ble_eq_true rfl) (by decide +kernel))
theorem dl_979 : decode code 979 = .ok (.iadd, 1) := dc_96 (dcc (r := 19) lq_15 rfl (Nat.le_of_ble_eq_true rfl) (by decide +kernel))
theorem dl_980 : decode code 980 = .ok (.iaload, 1) := dc_46 (dcc (r := 20) lq_15 rfl (Nat.le_of_ble_eq_true rfl) (by decide +kernel))
theorem dl_981 : decode code 981 = .ok (.aload_n 0, 1) := dc_42 (dcc (r := 21) lq_15 rfl (Nat.le_of_ble_eq_true rfl) (by decide +kernel))
theorem dl_982 : decode code 982 = .ok (.iload_n 3, 1) := dc_29 (dcc (r := 22) lq_15 rfl (Nat.le_of_ble_eq_true rfl) (by decide +kernel))
theorem dl_983 : decode code 983 = .ok (.iconst 2, 1) := dc_5 (dcc (r := 23) lq_15 rfl (Nat.le_of_ble_eq_true rfl) (by decide +kernel))
theorem dl_984 : decode code 984 = .ok (.iadd, 1) := dc_96 (dcc (r := 24) lq_15 rfl (Nat.le_of_ble_eq_true rfl) (by decide +kernel))
theorem dl_985 : decode code 985 = .ok (.iaload, 1) := dc_46 (dcc (r := 25) lq_15 rfl (Nat.le_of_ble_eq_true rfl) (by decide +kernel))
theorem dl_986 : decode code 986 = .ok (.aload_n 0, 1) := dc_42 (dcc (r := 26) lq_15 rfl (Nat.le_of_ble_eq_true rfl) (by decide +kernel))
theorem dl_987 : decode code 987 = .ok (.iload_n 3, 1) := dc_29 (dcc (r := 27) lq_15 rfl (Nat.le_of_ble_eq_true rfl) (by decide +kernel))
theorem dl_988 : decode code 988 = .ok (.iconst 3, 1) := dc_6 (dcc (r := 28) lq_15 rfl (Nat.le_of_ble_eq_true rfl) (by decide +kernel))
theorem dl_989 : decode code 989 = .ok (.iadd, 1) := dc_96 (dcc (r := 29) lq_15 rfl (Nat.le_of_ble_eq_true rfl) (by decide +kernel))
theorem dl_990 : decode code 990 = .ok (.iaload, 1) := dc_46 (dcc (r := 30) lq_15 rfl (Nat.le_of_ble_eq_true rfl) (by decide +kernel))
theorem dl_991 : decode code 991 = .ok (.aload_n 0, 1) := dc_42 (dcc (r := 31) lq_15 rfl (Nat.le_of_ble_eq_true rfl) (by decide +kernel))
theorem dl_992 : decode code 992 = .ok (.iload_n 3, 1) := dc_29 (dcc (r := 32) lq_15 rfl (Nat.le_of_ble_eq_true rfl) (by decide +kernel))
theorem dl_993 : decode code 993 = .ok (.iconst 4, 1) := dc_7 (dcc (r := 33) lq_15 rfl (Nat.le_of_ble_eq_true rfl) (by decide +kernel))
theorem dl_994 : decode code 994 = .ok (.iadd, 1) := dc_96 (dcc (r := 34) lq_15 rfl (Nat.le_of_ble_eq_true rfl) (by decide +kernel))
theorem dl_995 : decode code 995 = .ok (.iaload, 1) := dc_46 (dcc (r := 35) lq_15 rfl (Nat.le_of_ble_eq_true rfl) (by decide +kernel))
theorem dl_996 : decode code 996 = .ok (.invokevirtual 120, 3) := dc_182 (a := 0) (b := 120) (dcc (r := 36) lq_15 rfl (Nat.le_of_ble_eq_true rfl) (by decide +kernel)) rfl
theorem dl_999 : decode code 999 = .ok (.pop2, 1) := dc_88 (dcc (r := 39) lq_15 rfl (Nat.le_of_ble_eq_true rfl) (by decide +kernel))
theorem dl_1000 : decode code 1000 = .ok (.goto 359, 3) := dc_167 (a := 1) (b := 103) (dcc (r := 40) lq_15 rfl (Nat.le_of_ble_eq_true rfl) (by decide +kernel)) rfl
theorem dl_1003 : decode code 1003 = .ok (.aload_n 1, 1) := dc_43 (dcc (r := 43) lq_15 rfl (Nat.le_of_ble_eq_true rfl) (by decide +kernel))
theorem dl_1004 : decode code 1004 = .ok (.aload_n 0, 1) := dc_42 (dcc (r := 44) lq_15 rfl (Nat.le_of_ble_eq_true rfl) (by decide +kernel))
theorem dl_1005 : decode code 1005 = .ok (.iload_n 3, 1) := dc_29 (dcc (r := 45) lq_15 rfl (Nat.le_of_ble_eq_true rfl) (by decide +kernel))
theorem dl_1006 : decode code 1006 = .ok (.iconst 1, 1) := dc_4 (dcc (r := 46) lq_15 rfl (Nat.le_of_ble_eq_true rfl) (by decide +kernel))
theorem dl_1007 : decode code 1007 = .ok (.iadd, 1) := dc_96 (dcc (r := 47) lq_15 rfl (Nat.le_of_ble_eq_true rfl) (by decide +kernel))
theorem dl_1008 : decode code 1008 = .ok (.iaload, 1) := dc_46 (dcc (r := 48) lq_15 rfl (Nat.le_of_ble_eq_true rfl) (by decide +kernel))
theorem dl_1009 : decode code 1009 = .ok (.invokevirtual 121, 3) := dc_182 (a := 0) (b := 121) (dcc (r := 49) lq_15 rfl (Nat.le_of_ble_eq_true rfl) (by decide +kernel)) rfl
theorem dl_1012 : decode code 1012 = .ok (.pop, 1) := dc_87 (dcc (r := 52) lq_15 rfl (Nat.le_of_ble_eq_true rfl) (by decide +kernel))
theorem dl_1013 : decode code 1013 = .ok (.aload_n 2, 1) := dc_44 (dcc (r := 53) lq_15 rfl (Nat.le_of_ble_eq_true rfl) (by decide +kernel))
theorem dl_1014 : decode code 1014 = .ok (.aload_n 0, 1) := dc_42 (dcc (r := 54) lq_15 rfl (Nat.le_of_ble_eq_true rfl) (by decide +kernel))
theorem dl_1015 : decode code 1015 = .ok (.iload_n 3, 1) := dc_29 (dcc (r := 55) lq_15 rfl (Nat.le_of_ble_eq_true rfl) (by decide +kernel))
theorem dl_1016 : decode code 1016 = .ok (.iconst 1, 1) := dc_4 (dcc (r := 56) lq_15 rfl (Nat.le_of_ble_eq_true rfl) (by decide +kernel))
theorem dl_1017 : decode code 1017 = .ok (.iadd, 1) := dc_96 (dcc (r := 57) lq_15 rfl (Nat.le_of_ble_eq_true rfl) (by decide +kernel))
theorem dl_1018 : decode code 1018 = .ok (.iaload, 1) := dc_46 (dcc (r := 58) lq_15 rfl (Nat.le_of_ble_eq_true rfl) (by decide +kernel))
theorem dl_1019 : decode code 1019 = .ok (.invokevirtual 124, 3) := dc_182 (a := 0) (b := 124) (dcc (r := 59) lq_15 rfl (Nat.le_of_ble_eq_true rfl) (by decide +kernel)) rfl
theorem dl_1022 : decode code 1022 = .ok (.pop, 1) := dc_87 (dcc (r := 62) lq_15 rfl (Nat.le_of_ble_eq_true rfl) (by decide +kernel))
theorem dl_1023 : decode code 1023 = .ok (.goto 336, 3) := dc_167 (a := 1) (b := 80) (dcc (r := 63) lq_15 rfl (Nat.le_of_ble_eq_true rfl) (by decide +kernel)) rfl
theorem dl_1026 : decode code 1026 = .ok (.aload_n 1, 1) := dc_43 (dcc (r := 2) lq_16 rfl (Nat.le_of_ble_eq_true rfl) (by decide +kernel))
theorem dl_1027 : decode code 1027 = .ok (.aload_n 0, 1) := dc_42 (dcc (r := 3) lq_16 rfl (Nat.le_of_ble_eq_true rfl) (by decide +kernel))
theorem dl_1028 : decode code 1028 = .ok (.iload_n 3, 1) := dc_29 (dcc (r := 4) lq_16 rfl (Nat.le_of_ble_eq_true rfl) (by decide +kernel))
theorem dl_1029 : decode code 1029 = .ok (.iconst 1, 1) := dc_4 (dcc (r := 5) lq_16 rfl (Nat.le_of_ble_eq_true rfl) (by decide +kernel))
theorem dl_1030 : decode code 1030 = .ok (.iadd, 1) := dc_96 (dcc (r := 6) lq_16 rfl (Nat.le_of_ble_eq_true rfl) (by decide +kernel))
theorem dl_1031 : decode code 1031 = .ok (.iaload, 1) := dc_46 (dcc (r := 7) lq_16 rfl (Nat.le_of_ble_eq_true rfl) (by decide +kernel))
theorem dl_1032 : decode code 1032 = .ok (.aload_n 0, 1) := dc_42 (dcc (r := 8) lq_16 rfl (Nat.le_of_ble_eq_true rfl) (by decide +kernel))
theorem dl_1033 : decode code 1033 = .ok (.iload_n 3, 1) := dc_29 (dcc (r := 9) lq_16 rfl (Nat.le_of_ble_eq_true rfl) (by decide +kernel))
theorem dl_1034 : decode code 1034 = .ok (.iconst 2, 1) := dc_5 (dcc (r := 10) lq_16 rfl (Nat.le_of_ble_eq_true rfl) (by decide +kernel))
theorem dl_1035 : decode code 1035 = .ok (.iadd, 1) := dc_96 (dcc (r := 11) lq_16 rfl (Nat.le_of_ble_eq_true rfl) (by decide +kernel))
theorem dl_1036 : decode code 1036 = .ok (.iaload, 1) := dc_46 (dcc (r := 12) lq_16 rfl (Nat.le_of_ble_eq_true rfl) (by decide +kernel))
theorem dl_1037 : decode code 1037 = .ok (.invokevirtual 125, 3) := dc_182 (a := 0) (b := 125) (dcc (r := 13) lq_16 rfl (Nat.le_of_ble_eq_true rfl) (by decide +kernel)) rfl
theorem dl_1040 : decode code 1040 = .ok (.pop, 1) := dc_87 (dcc (r := 16) lq_16 rfl (Nat.le_of_ble_eq_true rfl) (by decide +kernel))
theorem dl_1041 : decode code 1041 = .ok (.aload_n 2, 1) := dc_44 (dcc (r := 17) lq_16 rfl (Nat.le_of_ble_eq_true rfl) (by decide +kernel))
theorem dl_1042 : decode code 1042 = .ok (.aload_n 0, 1) := dc_42 (dcc (r := 18) lq_16 rfl (Nat.le_of_ble_eq_true rfl) (by decide +kernel))
theorem dl_1043 : decode code 1043 = .ok (.iload_n 3, 1) := dc_29 (dcc (r := 19) lq_16 rfl (Nat.le_of_ble_eq_true rfl) (by decide +kernel))
theorem dl_1044 : decode code 1044 = .ok (.iconst 1, 1) := dc_4 (dcc (r := 20) lq_16 rfl (Nat.le_of_ble_eq_true rfl) (by decide +kernel))
theorem dl_1045 : decode code 1045 = .ok (.iadd, 1) := dc_96 (dcc (r := 21) lq_16 rfl (Nat.le_of_ble_eq_true rfl) (by decide +kernel))
theorem dl_1046 : decode code 1046 = .ok (.iaload, 1) := dc_46 (dcc (r := 22) lq_16 rfl (Nat.le_of_ble_eq_true rfl) (by decide +kernel))
theorem dl_1047 : decode code 1047 = .ok (.aload_n 0, 1) := dc_42 (dcc (r := 23) lq_16 rfl (Nat.le_of_ble_eq_true rfl) (by decide +kernel))
theorem dl_1048 : decode code 1048 = .ok (.iload_n 3, 1) := dc_29 (dcc (r := 24) lq_16 rfl (Nat.le_of_ble_eq_true rfl) (by decide +kernel))
theorem dl_1049 : decode code 1049 = .ok (.iconst 2, 1) := dc_5 (dcc (r := 25) lq_16 rfl (Nat.le_of_ble_eq_true rfl) (by decide +kernel))
theorem dl_1050 : decode code 1050 = .ok (.iadd, 1) := dc_96 (dcc (r := 26) lq_16 rfl (Nat.le_of_ble_eq_true rfl) (by decide +kernel))
theorem dl_1051 : decode code 1051 = .ok (.iaload, 1) := dc_46 (dcc (r := 27) lq_16 rfl (Nat.le_of_ble_eq_true rfl) (by decide +kernel))
theorem dl_1052 : decode code 1052 = .ok (.invokevirtual 128, 3) := dc_182 (a := 0) (b := 128) (dcc (r := 28) lq_16 rfl (Nat.le_of_ble_eq_true rfl) (by decide +kernel)) rfl
theorem dl_1055 : decode code 1055 = .ok (.pop, 1) := dc_87 (dcc (r := 31) lq_16 rfl (Nat.le_of_ble_eq_true rfl) (by decide +kernel))
theorem dl_1056 : decode code 1056 = .ok (.goto 303, 3) := dc_167 (a := 1) (b := 47) (dcc (r := 32) lq_16 rfl (Nat.le_of_ble_eq_true rfl) (by decide +kernel)) rfl
theorem dl_1059 : decode code 1059 = .ok (.aload_n 1, 1) := dc_43 (dcc (r := 35) lq_16 rfl (Nat.le_of_ble_eq_true rfl) (by decide +kernel))
theorem dl_1060 : decode code 1060 = .ok (.aload_n 0, 1) := dc_42 (dcc (r := 36) lq_16 rfl (Nat.le_of_ble_eq_true rfl) (by decide +kernel))
theorem dl_1061 : decode code 1061 = .ok (.iload_n 3, 1) := dc_29 (dcc (r := 37) lq_16 rfl (Nat.le_of_ble_eq_true rfl) (by decide +kernel))
theorem dl_1062 : decode code 1062 = .ok (.iconst 1, 1) := dc_4 (dcc (r := 38) lq_16 rfl (Nat.le_of_ble_eq_true rfl) (by decide +kernel))
theorem dl_1063 : decode code 1063 = .ok (.iadd, 1) := dc_96 (dcc (r := 39) lq_16 rfl (Nat.le_of_ble_eq_true rfl) (by decide +kernel))
theorem dl_1064 : decode code 1064 = .ok (.iaload, 1) := dc_46 (dcc (r := 40) lq_16 rfl (Nat.le_of_ble_eq_true rfl) (by decide +kernel))
theorem dl_1065 : decode code 1065 = .ok (.invokevirtual 129, 3) := dc_182 (a := 0) (b := 129) (dcc (r := 41) lq_16 rfl (Nat.le_of_ble_eq_true rfl) (by decide +kernel)) rfl
theorem dl_1068 : decode code 1068 = .ok (.pop, 1) := dc_87 (dcc (r := 44) lq_16 rfl (Nat.le_of_ble_eq_true rfl) (by decide +kernel))
theorem dl_1069 : decode code 1069 = .ok (.aload_n 2, 1) := dc_44 (dcc (r := 45) lq_16 rfl (Nat.le_of_ble_eq_true rfl) (by decide +kernel))
theorem dl_1070 : decode code 1070 = .ok (.aload_n 0, 1) := dc_42 (dcc (r := 46) lq_16 rfl (Nat.le_of_ble_eq_true rfl) (by decide +kernel))
theorem dl_1071 : decode code 1071 = .ok (.iload_n 3, 1) := dc_29 (dcc (r := 47) lq_16 rfl (Nat.le_of_ble_eq_true rfl) (by decide +kernel))
theorem dl_1072 : decode code 1072 = .ok (.iconst 1, 1) := dc_4 (dcc (r := 48) lq_16 rfl (Nat.le_of_ble_eq_true rfl) (by decide +kernel))
theorem dl_1073 : decode code 1073 = .ok (.iadd, 1) := dc_96 (dcc (r := 49) lq_16 rfl (Nat.le_of_ble_eq_true rfl) (by decide +kernel))
theorem dl_1074 : decode code 1074 = .ok (.iaload, 1) := dc_46 (dcc (r := 50) lq_16 rfl (Nat.le_of_ble_eq_true rfl) (by decide +kernel))
theorem dl_1075 : decode code 1075 = .ok (.invokevirtual 132, 3) := dc_182 (a := 0) (b := 132) (dcc (r := 51) lq_16 rfl (Nat.le_of_ble_eq_true rfl) (by decide +kernel)) rfl
theorem dl_1078 : decode code 1078 = .ok (.pop, 1) := dc_87 (dcc (r := 54) lq_16 rfl (Nat.le_of_ble_eq_true rfl) (by decide +kernel))
theorem dl_1079 : decode code 1079 = .ok (.goto 280, 3) := dc_167 (a := 1) (b := 24) (dcc (r := 55) lq_16 rfl (Nat.le_of_ble_eq_true rfl) (by decide +kernel)) rfl
theorem dl_1082 : decode code 1082 = .ok (.aload_n 1, 1) := dc_43 (dcc (r := 58) lq_16 rfl (Nat.le_of_ble_eq_true rfl) (by decide +kernel))
theorem dl_1083 : decode code 1083 = .ok (.aload_n 0, 1) := dc_42 (dcc (r := 59) lq_16 rfl (Nat.le_of_ble_eq_true rfl) (by decide +kernel))
theorem dl_1084 : decode code 1084 = .ok (.iload_n 3, 1) := dc_29 (dcc (r := 60) lq_16 rfl (Nat.le_of_ble_eq_true rfl) (by decide +kernel))
theorem dl_1085 : decode code 1085 = .ok (.iconst 1, 1) := dc_4 (dcc (r := 61) lq_16 rfl (Nat.le_of_ble_eq_true rfl) (by decide +kernel))
theorem dl_1086 : decode code 1086 = .ok (.iadd, 1) := dc_96 (dcc (r := 62) lq_16 rfl (Nat.le_of_ble_eq_true rfl) (by decide +kernel))
theorem dl_1087 : decode code 1087 = .ok (.iaload, 1) := dc_46 (dcc (r := 63) lq_16 rfl (Nat.le_of_ble_eq_true rfl) (by decide +kernel))
theorem dl_1088 : decode code 1088 = .ok (.invokevirtual 133, 3) := dc_182 (a := 0) (b := 133) (dcc (r := 0) lq_17 rfl (Nat.le_of_ble_eq_true rfl) (by decide +kernel)) rfl
theorem dl_1091 : decode code 1091 = .ok (.pop, 1) := dc_87 (dcc (r := 3) lq_17 rfl (Nat.le_of_ble_eq_true rfl) (by decide +kernel))
theorem dl_1092 : decode code 1092 = .ok (.aload_n 2, 1) := dc_44 (dcc (r := 4) lq_17 rfl (Nat.le_of_ble_eq_true rfl) (by decide +kernel))
theorem dl_1093 : decode code 1093 = .ok (.aload_n 0, 1) := dc_42 (dcc (r := 5) lq_17 rfl (Nat.le_of_ble_eq_true rfl) (by decide +kernel))
theorem dl_1094 : decode code 1094 = .ok (.iload_n 3, 1) := dc_29 (dcc (r := 6) lq_17 rfl (Nat.le_of_ble_eq_true rfl) (by decide +kernel))
theorem dl_1095 : decode code 1095 = .ok (.iconst 1, 1) := dc_4 (dcc (r := 7) lq_17 rfl (Nat.le_of_ble_eq_true rfl) (by decide +kernel))
theorem dl_1096 : decode code 1096 = .ok (.iadd, 1) := dc_96 (dcc (r := 8) lq_17 rfl (Nat.le_of_ble_eq_true rfl) (by decide +kernel))
theorem dl_1097 : decode code 1097 = .ok (.iaload, 1) := dc_46 (dcc (r := 9) lq_17 rfl (Nat.le_of_ble_eq_true rfl) (by decide +kernel))
theorem dl_1098 : decode code 1098 = .ok (.invokevirtual 136, 3) := dc_182 (a := 0) (b := 136) (dcc (r := 10) lq_17 rfl (Nat.le_of_ble_eq_true rfl) (by decide +kernel)) rfl
theorem dl_1101 : decode code 1101 = .ok (.pop, 1) := dc_87 (dcc (r := 13) lq_17 rfl (Nat.le_of_ble_eq_true rfl) (by decide +kernel))
theorem dl_1102 : decode code 1102 = .ok (.goto 257, 3) := dc_167 (a := 1) (b := 1) (dcc (r := 14) lq_17 rfl (Nat.le_of_ble_eq_true rfl) (by decide +kernel)) rfl
theorem dl_1105 : decode code 1105 = .ok (.aload_n 1, 1) := dc_43 (dcc (r := 17) lq_17 rfl (Nat.le_of_ble_eq_true rfl) (by decide +kernel))
theorem dl_1106 : decode code 1106 = .ok (.aload_n 0, 1) := dc_42 (dcc (r := 18) lq_17 rfl (Nat.le_of_ble_eq_true rfl) (by decide +kernel))
theorem dl_1107 : decode code 1107 = .ok (.iload_n 3, 1) := dc_29 (dcc (r := 19) lq_17 rfl (Nat.le_of_ble_eq_true rfl) (by decide +kernel))
theorem dl_1108 : decode code 1108 = .ok (.iconst 1, 1) := dc_4 (dcc (r := 20) lq_17 rfl (Nat.le_of_ble_eq_true rfl) (by decide +kernel))
theorem dl_1109 : decode code 1109 = .ok (.iadd, 1) := dc_96 (dcc (r := 21) lq_17 rfl (Nat.le_of_ble_eq_true rfl) (by decide +kernel))
theorem dl_1110 : decode code 1110 = .ok (.iaload, 1) := dc_46 (dcc (r := 22) lq_17 rfl (Nat.le_of_ble_eq_true rfl) (by decide +kernel))
theorem dl_1111 : decode code 1111 = .ok (.aload_n 0, 1) := dc_42 (dcc (r := 23) lq_17 rfl (Nat.le_of_ble_eq_true rfl) (by decide +kernel))
theorem dl_1112 : decode code 1112 = .ok (.iload_n 3, 1) := dc_29 (dcc (r := 24) lq_17 rfl (Nat.le_of_ble_eq_true rfl) (by decide +kernel))
theorem dl_1113 : decode code 1113 = .ok (.iconst 2, 1) := dc_5 (dcc (r := 25) lq_17 rfl (Nat.le_of_ble_eq_true rfl) (by decide +kernel))
theorem dl_1114 : decode code 1114 = .ok (.iadd, 1) := dc_96 (dcc (r := 26) lq_17 rfl (Nat.le_of_ble_eq_true rfl) (by decide +kernel))
theorem dl_1115 : decode code 1115 = .ok (.iaload, 1) := dc_46 (dcc (r := 27) lq_17 rfl (Nat.le_of_ble_eq_true rfl) (by decide +kernel))
theorem dl_1116 : decode code 1116 = .ok (.invokevirtual 137, 3) := dc_182 (a := 0) (b := 137) (dcc (r := 28) lq_17 rfl (Nat.le_of_ble_eq_true rfl) (by decide +kernel)) rfl
theorem dl_1119 : decode code 1119 = .ok (.aload_n 2, 1) := dc_44 (dcc (r := 31) lq_17 rfl (Nat.le_of_ble_eq_true rfl) (by decide +kernel))
theorem dl_1120 : decode code 1120 = .ok (.aload_n 0, 1) := dc_42 (dcc (r := 32) lq_17 rfl (Nat.le_of_ble_eq_true rfl) (by decide +kernel))
theorem dl_1121 : decode code 1121 = .ok (.iload_n 3, 1) := dc_29 (dcc (r := 33) lq_17 rfl (Nat.le_of_ble_eq_true rfl) (by decide +kernel))
theorem dl_1122 : decode code 1122 = .ok (.iconst 1, 1) := dc_4 (dcc (r := 34) lq_17 rfl (Nat.le_of_ble_eq_true rfl) (by decide +kernel))
theorem dl_1123 : decode code 1123 = .ok (.iadd, 1) := dc_96 (dcc (r := 35) lq_17 rfl (Nat.le_of_ble_eq_true rfl) (by decide +kernel))
theorem dl_1124 : decode code 1124 = .ok (.iaload, 1) := dc_46 (dcc (r := 36) lq_17 rfl (Nat.le_of_ble_eq_true rfl) (by decide +kernel))
theorem dl_1125 : decode code 1125 = .ok (.aload_n 0, 1) := dc_42 (dcc (r := 37) lq_17 rfl (Nat.le_of_ble_eq_true rfl) (by decide +kernel))
theorem dl_1126 : decode code 1126 = .ok (.iload_n 3, 1) := dc_29 (dcc (r := 38) lq_17 rfl (Nat.le_of_ble_eq_true rfl) (by decide +kernel))
theorem dl_1127 : decode code 1127 = .ok (.iconst 2, 1) := dc_5 (dcc (r := 39) lq_17 rfl (Nat.le_of_ble_eq_true rfl) (by decide +kernel))
theorem dl_1128 : decode code 1128 = .ok (.iadd, 1) := dc_96 (dcc (r := 40) lq_17 rfl (Nat.le_of_ble_eq_true rfl) (by decide +kernel))
theorem dl_1129 : decode code 1129 = .ok (.iaload, 1) := dc_46 (dcc (r := 41) lq_17 rfl (Nat.le_of_ble_eq_true rfl) (by decide +kernel))
theorem dl_1130 : decode code 1130 = .ok (.invokevirtual 140, 3) := dc_182 (a := 0) (b := 140) (dcc (r := 42) lq_17 rfl (Nat.le_of_ble_eq_true rfl) (by decide +kernel)) rfl
theorem dl_1133 : decode code 1133 = .ok (.if_icmp .eq 226, 3) := dc_159 (a := 0) (b := 226) (dcc (r := 45) lq_17 rfl (Nat.le_of_ble_eq_true rfl) (by decide +kernel)) rfl
theorem dl_1138 : decode code 1138 = .ok (.aload_n 1, 1) := dc_43 (dcc (r := 50) lq_17 rfl (Nat.le_of_ble_eq_true rfl) (by decide +kernel))
theorem dl_1139 : decode code 1139 = .ok (.aload_n 0, 1) := dc_42 (dcc (r := 51) lq_17 rfl (Nat.le_of_ble_eq_true rfl) (by decide +kernel))
theorem dl_1140 : decode code 1140 = .ok (.iload_n 3, 1) := dc_29 (dcc (r := 52) lq_17 rfl (Nat.le_of_ble_eq_true rfl) (by decide +kernel))
theorem dl_1141 : decode code 1141 = .ok (.iconst 1, 1) := dc_4 (dcc (r := 53) lq_17 rfl (Nat.le_of_ble_eq_true rfl) (by decide +kernel))
theorem dl_1142 : decode code 1142 = .ok (.iadd, 1) := dc_96 (dcc (r := 54) lq_17 rfl (Nat.le_of_ble_eq_true rfl) (by decide +kernel))
theorem dl_1143 : decode code 1143 = .ok (.iaload, 1) := dc_46 (dcc (r := 55) lq_17 rfl (Nat.le_of_ble_eq_true rfl) (by decide +kernel))
theorem dl_1144 : decode code 1144 = .ok (.invokevirtual 141, 3) := dc_182 (a := 0) (b := 141) (dcc (r := 56) lq_17 rfl (Nat.le_of_ble_eq_true rfl) (by decide +kernel)) rfl
theorem dl_1147 : decode code 1147 = .ok (.pop, 1) := dc_87 (dcc (r := 59) lq_17 rfl (Nat.le_of_ble_eq_true rfl) (by decide +kernel))
theorem dl_1148 : decode code 1148 = .ok (.aload_n 2, 1) := dc_44 (dcc (r := 60) lq_17 rfl (Nat.le_of_ble_eq_true rfl) (by decide +kernel))
theorem dl_1149 : decode code 1149 = .ok (.aload_n 0, 1) := dc_42 (dcc (r := 61) lq_17 rfl (Nat.le_of_ble_eq_true rfl) (by decide +kernel))
theorem dl_1150 : decode code 1150 = .ok (.iload_n 3, 1) := dc_29 (dcc (r := 62) lq_17 rfl (Nat.le_of_ble_eq_true rfl) (by decide +kernel))
theorem dl_1151 : decode code 1151 = .ok (.iconst 1, 1) := dc_4 (dcc (r := 63) lq_17 rfl (Nat.le_of_ble_eq_true rfl) (by decide +kernel))
theorem dl_1152 : decode code 1152 = .ok (.iadd, 1) := dc_96 (dcc (r := 0) lq_18 rfl (Nat.le_of_ble_eq_true rfl) (by decide +kernel))
theorem dl_1153 : decode code 1153 = .ok (.iaload, 1) := dc_46 (dcc (r := 1) lq_18 rfl (Nat.le_of_ble_eq_true rfl) (by decide +kernel))
theorem dl_1154 : decode code 1154 = .ok (.invokevirtual 144, 3) := dc_182 (a := 0) (b := 144) (dcc (r := 2) lq_18 rfl (Nat.le_of_ble_eq_true rfl) (by decide +kernel)) rfl
theorem dl_1157 : decode code 1157 = .ok (.pop, 1) := dc_87 (dcc (r := 5) lq_18 rfl (Nat.le_of_ble_eq_true rfl) (by decide +kernel))
theorem dl_1158 : decode code 1158 = .ok (.goto 201, 3) := dc_167 (a := 0) (b := 201) (dcc (r := 6) lq_18 rfl (Nat.le_of_ble_eq_true rfl) (by decide +kernel)) rfl
theorem dl_1161 : decode code 1161 = .ok (.aload_n 1, 1) := dc_43 (dcc (r := 9) lq_18 rfl (Nat.le_of_ble_eq_true rfl) (by decide +kernel))
theorem dl_1162 : decode code 1162 = .ok (.aload_n 0, 1) := dc_42 (dcc (r := 10) lq_18 rfl (Nat.le_of_ble_eq_true rfl) (by decide +kernel))
theorem dl_1163 : decode code 1163 = .ok (.iload_n 3, 1) := dc_29 (dcc (r := 11) lq_18 rfl (Nat.le_of_ble_eq_true rfl) (by decide +kernel))
theorem dl_1164 : decode code 1164 = .ok (.iconst 1, 1) := dc_4 (dcc (r := 12) lq_18 rfl (Nat.le_of_ble_eq_true rfl) (by decide +kernel))
theorem dl_1165 : decode code 1165 = .ok (.iadd, 1) := dc_96 (dcc (r := 13) lq_18 rfl (Nat.le_of_ble_eq_true rfl) (by decide +kernel))
theorem dl_1166 : decode code 1166 = .ok (.iaload, 1) := dc_46 (dcc (r := 14) lq_18 rfl (Nat.le_of_ble_eq_true rfl) (by decide +kernel))
theorem dl_1167 : decode code 1167 = .ok (.invokevirtual 145, 3) := dc_182 (a := 0) (b := 145) (dcc (r := 15) lq_18 rfl (Nat.le_of_ble_eq_true rfl) (by decide +kernel)) rfl
theorem dl_1170 : decode code 1170 = .ok (.pop, 1) := dc_87 (dcc (r := 18) lq_18 rfl (Nat.le_of_ble_eq_true rfl) (by decide +kernel))
theorem dl_1171 : decode code 1171 = .ok (.aload_n 2, 1) := dc_44 (dcc (r := 19) lq_18 rfl (Nat.le_of_ble_eq_true rfl) (by decide +kernel))
theorem dl_1172 : decode code 1172 = .ok (.aload_n 0, 1) := dc_42 (dcc (r := 20) lq_18 rfl (Nat.le_of_ble_eq_true rfl) (by decide +kernel))
theorem dl_1173 : decode code 1173 = .ok (.iload_n 3, 1) := dc_29 (dcc (r := 21) lq_18 rfl (Nat.le_of_ble_eq_true rfl) (by decide +kernel))
theorem dl_1174 : decode code 1174 = .ok (.iconst 1, 1) := dc_4 (dcc (r := 22) lq_18 rfl (Nat.le_of_ble_eq_true rfl) (by decide +kernel))
theorem dl_1175 : decode code 1175 = .ok (.iadd, 1) := dc_96 (dcc (r := 23) lq_18 rfl (Nat.le_of_ble_eq_true rfl) (by decide +kernel))
theorem dl_1176 : decode code 1176 = .ok (.iaload, 1) := dc_46 (dcc (r := 24) lq_18 rfl (Nat.le_of_ble_eq_true rfl) (by decide +kernel))
theorem dl_1177 : decode code 1177 = .ok (.invokevirtual 148, 3) := dc_182 (a := 0) (b := 148) (dcc (r := 25) lq_18 rfl (Nat.le_of_ble_eq_true rfl) (by decide +kernel)) rfl
theorem dl_1180 : decode code 1180 = .ok (.pop, 1) := dc_87 (dcc (r := 28) lq_18 rfl (Nat.le_of_ble_eq_true rfl) (by decide +kernel))
theorem dl_1181 : decode code 1181 = .ok (.goto 178, 3) := dc_167 (a := 0) (b := 178) (dcc (r := 29) lq_18 rfl (Nat.le_of_ble_eq_true rfl) (by decide +kernel)) rfl
theorem dl_1184 : decode code 1184 = .ok (.aload_n 1, 1) := dc_43 (dcc (r := 32) lq_18 rfl (Nat.le_of_ble_eq_true rfl) (by decide +kernel))
theorem dl_1185 : decode code 1185 = .ok (.aload_n 0, 1) := dc_42 (dcc (r := 33) lq_18 rfl (Nat.le_of_ble_eq_true rfl) (by decide +kernel))
theorem dl_1186 : decode code 1186 = .ok (.iload_n 3, 1) := dc_29 (dcc (r := 34) lq_18 rfl (Nat.le_of_ble_eq_true rfl) (by decide +kernel))
theorem dl_1187 : decode code 1187 = .ok (.iconst 1, 1) := dc_4 (dcc (r := 35) lq_18 rfl (Nat.le_of_ble_eq_true rfl) (by decide +kernel))
theorem dl_1188 : decode code 1188 = .ok (.iadd, 1) := dc_96 (dcc (r := 36) lq_18 rfl (Nat.le_of_ble_eq_true rfl) (by decide +kernel))
theorem dl_1189 : decode code 1189 = .ok (.iaload, 1) := dc_46 (dcc (r := 37) lq_18 rfl (Nat.le_of_ble_eq_true rfl) (by decide +kernel))
theorem dl_1190 : decode code 1190 = .ok (.aload_n 0, 1) := dc_42 (dcc (r := 38) lq_18 rfl (Nat.le_of_ble_eq_true rfl) (by decide +kernel))
theorem dl_1191 : decode code 1191 = .ok (.iload_n 3, 1) := dc_29 (dcc (r := 39) lq_18 rfl (Nat.le_of_ble_eq_true rfl) (by decide +kernel))
theorem dl_1192 : decode code 1192 = .ok (.iconst 2, 1) := dc_5 (dcc (r := 40) lq_18 rfl (Nat.le_of_ble_eq_true rfl) (by decide +kernel))
theorem dl_1193 : decode code 1193 = .ok (.iadd, 1) := dc_96 (dcc (r := 41) lq_18 rfl (Nat.le_of_ble_eq_true rfl) (by decide +kernel))
theorem dl_1194 : decode code 1194 = .ok (.iaload, 1) := dc_46 (dcc (r := 42) lq_18 rfl (Nat.le_of_ble_eq_true rfl) (by decide +kernel))
theorem dl_1195 : decode code 1195 = .ok (.aload_n 0, 1) := dc_42 (dcc (r := 43) lq_18 rfl (Nat.le_of_ble_eq_true rfl) (by decide +kernel))
theorem dl_1196 : decode code 1196 = .ok (.iload_n 3, 1) := dc_29 (dcc (r := 44) lq_18 rfl (Nat.le_of_ble_eq_true rfl) (by decide +kernel))
theorem dl_1197 : decode code 1197 = .ok (.iconst 3, 1) := dc_6 (dcc (r := 45) lq_18 rfl (Nat.le_of_ble_eq_true rfl) (by decide +kernel))
theorem dl_1198 : decode code 1198 = .ok (.iadd, 1) := dc_96 (dcc (r := 46) lq_18 rfl (Nat.le_of_ble_eq_true rfl) (by decide +kernel))
theorem dl_1199 : decode code 1199 = .ok (.iaload, 1) := dc_46 (dcc (r := 47) lq_18 rfl (Nat.le_of_ble_eq_true rfl) (by decide +kernel))
theorem dl_1200 : decode code 1200 = .ok (.invokevirtual 149, 3) := dc_182 (a := 0) (b := 149) (dcc (r := 48) lq_18 rfl (Nat.le_of_ble_eq_true rfl) (by decide +kernel)) rfl
theorem dl_1203 : decode code 1203 = .ok (.pop, 1) := dc_87 (dcc (r := 51) lq_18 rfl (Nat.le_of_ble_eq_true rfl) (by decide +kernel))
theorem dl_1204 : decode code 1204 = .ok (.aload_n 2, 1) := dc_44 (dcc (r := 52) lq_18 rfl (Nat.le_of_ble_eq_true rfl) (by decide +kernel))
theorem dl_1205 : decode code 1205 = .ok (.aload_n 0, 1) := dc_42 (dcc (r := 53) lq_18 rfl (Nat.le_of_ble_eq_true rfl) (by decide +kernel))
theorem dl_1206 : decode code 1206 = .ok (.iload_n 3, 1) := dc_29 (dcc (r := 54) lq_18 rfl (Nat.le_of_ble_eq_true rfl) (by decide +kernel))
theorem dl_1207 : decode code 1207 = .ok (.iconst 1, 1) := dc_4 (dcc (r := 55) lq_18 rfl (Nat.le_of_ble_eq_true rfl) (by decide +kernel))
theorem dl_1208 : decode code 1208 = .ok (.iadd, 1) := dc_96 (dcc (r := 56) lq_18 rfl (Nat.le_of_ble_eq_true rfl) (by decide +kernel))
theorem dl_1209 : decode code 1209 = .ok (.iaload, 1) := dc_46 (dcc (r := 57) lq_18 rfl (Nat.le_of_ble_eq_true rfl) (by decide +kernel))
theorem dl_1210 : decode code 1210 = .ok (.aload_n 0, 1) := dc_42 (dcc (r := 58) lq_18 rfl (Nat.le_of_ble_eq_true rfl) (by decide +kernel))
theorem dl_1211 : decode code 1211 = .ok (.iload_n 3, 1) := dc_29 (dcc (r := 59) lq_18 rfl (Nat.le_of_ble_eq_true rfl) (by decide +kernel))
theorem dl_1212 : decode code 1212 = .ok (.iconst 2, 1) := dc_5 (dcc (r := 60) lq_18 rfl (Nat.le_of_ble_eq_true rfl) (by decide +kernel))
theorem dl_1213 : decode code 1213 = .ok (.iadd, 1) := dc_96 (dcc (r := 61) lq_18 rfl (Nat.le_of_ble_eq_true rfl) (by decide +kernel))
theorem dl_1214 : decode code 1214 = .ok (.iaload, 1) := dc_46 (dcc (r := 62) lq_18 rfl (Nat.le_of_ble_eq_true rfl) (by decide +kernel))
theorem dl_1215 : decode code 1215 = .ok (.aload_n 0, 1) := dc_42 (dcc (r := 63) lq_18 rfl (Nat.le_of_ble_eq_true rfl) (by decide +kernel))
theorem dl_1216 : decode code 1216 = .ok (.iload_n 3, 1) := dc_29 (dcc (r := 0) lq_19 rfl (Nat.le_of_ble_eq_true rfl) (by decide +kernel))
theorem dl_1217 : decode code 1217 = .ok (.iconst 3, 1) := dc_6 (dcc (r := 1) lq_19 rfl (Nat.le_of_ble_eq_true rfl) (by decide +kernel))
theorem dl_1218 : decode code 1218 = .ok (.iadd, 1) := dc_96 (dcc (r := 2) lq_19 rfl (Nat.le_of_ble_eq_true rfl) (by decide +kernel))
theorem dl_1219 : decode code 1219 = .ok (.iaload, 1) := dc_46 (dcc (r := 3) lq_19 rfl (Nat.le_of_ble_eq_true rfl) (by decide +kernel))
theorem dl_1220 : decode code 1220 = .ok (.invokevirtual 152, 3) := dc_182 (a := 0) (b := 152) (dcc (r := 4) lq_19 rfl (Nat.le_of_ble_eq_true rfl) (by decide +kernel)) rfl
theorem dl_1223 : decode code 1223 = .ok (.pop, 1) := dc_87 (dcc (r := 7) lq_19 rfl (Nat.le_of_ble_eq_true rfl) (by decide +kernel))
theorem dl_1224 : decode code 1224 = .ok (.goto 135, 3) := dc_167 (a := 0) (b := 135) (dcc (r := 8) lq_19 rfl (Nat.le_of_ble_eq_true rfl) (by decide +kernel)) rfl
theorem dl_1227 : decode code 1227 = .ok (.aload_n 1, 1) := dc_43 (dcc (r := 11) lq_19 rfl (Nat.le_of_ble_eq_true rfl) (by decide +kernel))
theorem dl_1228 : decode code 1228 = .ok (.aload_n 0, 1) := dc_42 (dcc (r := 12) lq_19 rfl (Nat.le_of_ble_eq_true rfl) (by decide +kernel))
theorem dl_1229 : decode code 1229 = .ok (.iload_n 3, 1) := dc_29 (dcc (r := 13) lq_19 rfl (Nat.le_of_ble_eq_true rfl) (by decide +kernel))
theorem dl_1230 : decode code 1230 = .ok (.iconst 1, 1) := dc_4 (dcc (r := 14) lq_19 rfl (Nat.le_of_ble_eq_true rfl) (by decide +kernel))
theorem dl_1231 : decode code 1231 = .ok (.iadd, 1) := dc_96 (dcc (r := 15) lq_19 rfl (Nat.le_of_ble_eq_true rfl) (by decide +kernel))
theorem dl_1232 : decode code 1232 = .ok (.iaload, 1) := dc_46 (dcc (r := 16) lq_19 rfl (Nat.le_of_ble_eq_true rfl) (by decide +kernel))
theorem dl_1233 : decode code 1233 = .ok (.aload_n 0, 1) := dc_42 (dcc (r := 17) lq_19 rfl (Nat.le_of_ble_eq_true rfl) (by decide +kernel))
theorem dl_1234 : decode code 1234 = .ok (.iload_n 3, 1) := dc_29 (dcc (r := 18) lq_19 rfl (Nat.le_of_ble_eq_true rfl) (by decide +kernel))
theorem dl_1235 : decode code 1235 = .ok (.iconst 2, 1) := dc_5 (dcc (r := 19) lq_19 rfl (Nat.le_of_ble_eq_true rfl) (by decide +kernel))
theorem dl_1236 : decode code 1236 = .ok (.iadd, 1) := dc_96 (dcc (r := 20) lq_19 rfl (Nat.le_of_ble_eq_true rfl) (by decide +kernel))
theorem dl_1237 : decode code 1237 = .ok (.iaload, 1) := dc_46 (dcc (r := 21) lq_19 rfl (Nat.le_of_ble_eq_true rfl) (by decide +kernel))
theorem dl_1238 : decode code 1238 = .ok (.aload_n 0, 1) := dc_42 (dcc (r := 22) lq_19 rfl (Nat.le_of_ble_eq_true rfl) (by decide +kernel))
theorem dl_1239 : decode code 1239 = .ok (.iload_n 3, 1) := dc_29 (dcc (r := 23) lq_19 rfl (Nat.le_of_ble_eq_true rfl) (by decide +kernel))
theorem dl_1240 : decode code 1240 = .ok (.iconst 3, 1) := dc_6 (dcc (r := 24) lq_19 rfl (Nat.le_of_ble_eq_true rfl) (by decide +kernel))
theorem dl_1241 : decode code 1241 = .ok (.iadd, 1) := dc_96 (dcc (r := 25) lq_19 rfl (Nat.le_of_ble_eq_true rfl) (by decide +kernel))
theorem dl_1242 : decode code 1242 = .ok (.iaload, 1) := dc_46 (dcc (r := 26) lq_19 rfl (Nat.le_of_ble_eq_true rfl) (by decide +kernel))
theorem dl_1243 : decode code 1243 = .ok (.invokevirtual 153, 3) := dc_182 (a := 0) (b := 153) (dcc (r := 27) lq_19 rfl (Nat.le_of_ble_eq_true rfl) (by decide +kernel)) rfl
theorem dl_1246 : decode code 1246 = .ok (.pop, 1) := dc_87 (dcc (r := 30) lq_19 rfl (Nat.le_of_ble_eq_true rfl) (by decide +kernel))
theorem dl_1247 : decode code 1247 = .ok (.aload_n 2, 1) := dc_44 (dcc (r := 31) lq_19 rfl (Nat.le_of_ble_eq_true rfl) (by decide +kernel))
theorem dl_1248 : decode code 1248 = .ok (.aload_n 0, 1) := dc_42 (dcc (r := 32) lq_19 rfl (Nat.le_of_ble_eq_true rfl) (by decide +kernel))
theorem dl_1249 : decode code 1249 = .ok (.iload_n 3, 1) := dc_29 (dcc (r := 33) lq_19 rfl (Nat.le_of_ble_eq_true rfl) (by decide +kernel))
theorem dl_1250 : decode code 1250 = .ok (.iconst 1, 1) := dc_4 (dcc (r := 34) lq_19 rfl (Nat.le_of_ble_eq_true rfl) (by decide +kernel))
theorem dl_1251 : decode code 1251 = .ok (.iadd, 1) := dc_96 (dcc (r := 35) lq_19 rfl (Nat.le_of_ble_eq_true rfl) (by decide +kernel))
theorem dl_1252 : decode code 1252 = .ok (.iaload, 1) := dc_46 (dcc (r := 36) lq_19 rfl (Nat.le_of_ble_eq_true rfl) (by decide +kernel))
theorem dl_1253 : decode code 1253 = .ok (.aload_n 0, 1) := dc_42 (dcc (r := 37) lq_19 rfl (Nat.le_of_ble_eq_true rfl) (by decide +kernel))
theorem dl_1254 : decode code 1254 = .ok (.iload_n 3, 1) := dc_29 (dcc (r := 38) lq_19 rfl (Nat.le_of_ble_eq_true rfl) (by decide +kernel))
theorem dl_1255 : decode code 1255 = .ok (.iconst 2, 1) := dc_5 (dcc (r := 39) lq_19 rfl (Nat.le_of_ble_eq_true rfl) (by decide +kernel))
theorem dl_1256 : decode code 1256 = .ok (.iadd, 1) := dc_96 (dcc (r := 40) lq_19 rfl (Nat.le_of_ble_eq_true rfl) (by decide +kernel))
theorem dl_1257 : decode code 1257 = .ok (.iaload, 1) := dc_46 (dcc (r := 41) lq_19 rfl (Nat.le_of_ble_eq_true rfl) (by decide +kernel))
theorem dl_1258 : decode code 1258 = .ok (.aload_n 0, 1) := dc_42 (dcc (r := 42) lq_19 rfl (Nat.le_of_ble_eq_true rfl) (by decide +kernel))
theorem dl_1259 : decode code 1259 = .ok (.iload_n 3, 1) := dc_29 (dcc (r := 43) lq_19 rfl (Nat.le_of_ble_eq_true rfl) (by decide +kernel))
theorem dl_1260 : decode code 1260 = .ok (.iconst 3, 1) := dc_6 (dcc (r := 44) lq_19 rfl (Nat.le_of_ble_eq_true rfl) (by decide +kernel))
theorem dl_1261 : decode code 1261 = .ok (.iadd, 1) := dc_96 (dcc (r := 45) lq_19 rfl (Nat.le_of_ble_eq_true rfl) (by decide +kernel))
theorem dl_1262 : decode code 1262 = .ok (.iaload, 1) := dc_46 (dcc (r := 46) lq_19 rfl (Nat.le_of_ble_eq_true rfl) (by decide +kernel))
theorem dl_1263 : decode code 1263 = .ok (.invokevirtual 156, 3) := dc_182 (a := 0) (b := 156) (dcc (r := 47) lq_19 rfl (Nat.le_of_ble_eq_true rfl) (by decide +kernel)) rfl
theorem dl_1266 : decode code 1266 = .ok (.pop, 1) := dc_87 (dcc (r := 50) lq_19 rfl (Nat.le_of_ble_eq_true rfl) (by decide +kernel))
theorem dl_1267 : decode code 1267 = .ok (.goto 92, 3) := dc_167 (a := 0) (b := 92) (dcc (r := 51) lq_19 rfl (Nat.le_of_ble_eq_true rfl) (by decide +kernel)) rfl
theorem dl_1270 : decode code 1270 = .ok (.aload_n 1, 1) := dc_43 (dcc (r := 54) lq_19 rfl (Nat.le_of_ble_eq_true rfl) (by decide +kernel))
theorem dl_1271 : decode code 1271 = .ok (.aload_n 0, 1) := dc_42 (dcc (r := 55) lq_19 rfl (Nat.le_of_ble_eq_true rfl) (by decide +kernel))
theorem dl_1272 : decode code 1272 = .ok (.iload_n 3, 1) := dc_29 (dcc (r := 56) lq_19 rfl (Nat.le_of_ble_eq_true rfl) (by decide +kernel))
theorem dl_1273 : decode code 1273 = .ok (.iconst 1, 1) := dc_4 (dcc (r := 57) lq_19 rfl (Nat.le_of_ble_eq_true rfl) (by decide +kernel))
theorem dl_1274 : decode code 1274 = .ok (.iadd, 1) := dc_96 (dcc (r := 58) lq_19 rfl (Nat.le_of_ble_eq_true rfl) (by decide +kernel))
theorem dl_1275 : decode code 1275 = .ok (.iaload, 1) := dc_46 (dcc (r := 59) lq_19 rfl (Nat.le_of_ble_eq_true rfl) (by decide +kernel))
theorem dl_1276 : decode code 1276 = .ok (.aload_n 0, 1) := dc_42 (dcc (r := 60) lq_19 rfl (Nat.le_of_ble_eq_true rfl) (by decide +kernel))
theorem dl_1277 : decode code 1277 = .ok (.iload_n 3, 1) := dc_29 (dcc (r := 61) lq_19 rfl (Nat.le_of_ble_eq_true rfl) (by decide +kernel))
theorem dl_1278 : decode code 1278 = .ok (.iconst 2, 1) := dc_5 (dcc (r := 62) lq_19 rfl (Nat.le_of_ble_eq_true rfl) (by decide +kernel))
theorem dl_1279 : decode code 1279 = .ok (.iadd, 1) := dc_96 (dcc (r := 63) lq_19 rfl (Nat.le_of_ble_eq_true rfl) (by decide +kernel))
theorem dl_1280 : decode code 1280 = .ok (.iaload, 1) := dc_46 (dcc (r := 0) lq_20 rfl (Nat.le_of_ble_eq_true rfl) (by decide +kernel))
theorem dl_1281 : decode code 1281 = .ok (.aload_n 0, 1) := dc_42 (dcc (r := 1) lq_20 rfl (Nat.le_of_ble_eq_true rfl) (by decide +kernel))
theorem dl_1282 : decode code 1282 = .ok (.iload_n 3, 1) := dc_29 (dcc (r := 2) lq_20 rfl (Nat.le_of_ble_eq_true rfl) (by decide +kernel))
theorem dl_1283 : decode code 1283 = .ok (.iconst 3, 1) := dc_6 (dcc (r := 3) lq_20 rfl (Nat.le_of_ble_eq_true rfl) (by decide +kernel))
theorem dl_1284 : decode code 1284 = .ok (.iadd, 1) := dc_96 (dcc (r := 4) lq_20 rfl (Nat.le_of_ble_eq_true rfl) (by decide +kernel))
theorem dl_1285 : decode code 1285 = .ok (.iaload, 1) := dc_46 (dcc (r := 5) lq_20 rfl (Nat.le_of_ble_eq_true rfl) (by decide +kernel))
theorem dl_1286 : decode code 1286 = .ok (.aload_n 0, 1) := dc_42 (dcc (r := 6) lq_20 rfl (Nat.le_of_ble_eq_true rfl) (by decide +kernel))
theorem dl_1287 : decode code 1287 = .ok (.iload_n 3, 1) := dc_29 (dcc (r := 7) lq_20 rfl (Nat.le_of_ble_eq_true rfl) (by decide +kernel))
theorem dl_1288 : decode code 1288 = .ok (.iconst 4, 1) := dc_7 (dcc (r := 8) lq_20 rfl (Nat.le_of_ble_eq_true rfl) (by decide +kernel))
theorem dl_1289 : decode code 1289 = .ok (.iadd, 1) := dc_96 (dcc (r := 9) lq_20 rfl (Nat.le_of_ble_eq_true rfl) (by decide +kernel))
theorem dl_1290 : decode code 1290 = .ok (.iaload, 1) := dc_46 (dcc (r := 10) lq_20 rfl (Nat.le_of_ble_eq_true rfl) (by decide +kernel))
theorem dl_1291 : decode code 1291 = .ok (.invokevirtual 157, 3) := dc_182 (a := 0) (b := 157) (dcc (r := 11) lq_20 rfl (Nat.le_of_ble_eq_true rfl) (by decide +kernel)) rfl
theorem dl_1294 : decode code 1294 = .ok (.pop, 1) := dc_87 (dcc (r := 14) lq_20 rfl (Nat.le_of_ble_eq_true rfl) (by decide +kernel))
theorem dl_1295 : decode code 1295 = .ok (.aload_n 2, 1) := dc_44 (dcc (r := 15) lq_20 rfl (Nat.le_of_ble_eq_true rfl) (by decide +kernel))
theorem dl_1296 : decode code 1296 = .ok (.aload_n 0, 1) := dc_42 (dcc (r := 16) lq_20 rfl (Nat.le_of_ble_eq_true rfl) (by decide +kernel))
theorem dl_1297 : decode code 1297 = .ok (.iload_n 3, 1) := dc_29 (dcc (r := 17) lq_20 rfl (Nat.le_of_ble_eq_true rfl) (by decide +kernel))
theorem dl_1298 : decode code 1298 = .ok (.iconst 1, 1) := dc_4 (dcc (r := 18) lq_20 rfl (Nat.le_of_ble_eq_true rfl) (by decide +kernel))
theorem dl_1299 : decode code 1299 = .ok (.iadd, 1) := dc_96 (dcc (r := 19) lq_20 rfl (Nat.le_of_ble_eq_true rfl) (by decide +kernel))
theorem dl_1300 : decode code 1300 = .ok (.iaload, 1) := dc_46 (dcc (r := 20) lq_20 rfl (Nat.le_of_ble_eq_true rfl) (by decide +kernel))
theorem dl_1301 : decode code 1301 = .ok (.aload_n 0, 1) := dc_42 (dcc (r := 21) lq_20 rfl (Nat.le_of_ble_eq_true rfl) (by decide +kernel))
theorem dl_1302 : decode code 1302 = .ok (.iload_n 3, 1) := dc_29 (dcc (r := 22) lq_20 rfl (Nat.le_of_ble_eq_true rfl) (by decide +kernel))
theorem dl_1303 : decode code 1303 = .ok (.iconst 2, 1) := dc_5 (dcc (r := 23) lq_20 rfl (Nat.le_of_ble_eq_true rfl) (by decide +kernel))
theorem dl_1304 : decode code 1304 = .ok (.iadd, 1) := dc_96 (dcc (r := 24) lq_20 rfl (Nat.le_of_ble_eq_true rfl) (by decide +kernel))
theorem dl_1305 : decode code 1305 = .ok (.iaload, 1) := dc_46 (dcc (r := 25) lq_20 rfl (Nat.le_of_ble_eq_true rfl) (by decide +kernel))
theorem dl_1306 : decode code 1306 = .ok (.aload_n 0, 1) := dc_42 (dcc (r := 26) lq_20 rfl (Nat.le_of_ble_eq_true rfl) (by decide +kernel))
theorem dl_1307 : decode code 1307 = .ok (.iload_n 3, 1) := dc_29 (dcc (r := 27) lq_20 rfl (Nat.le_of_ble_eq_true rfl) (by decide +kernel))
theorem dl_1308 : decode code 1308 = .ok (.iconst 3, 1) := dc_6 (dcc (r := 28) lq_20 rfl (Nat.le_of_ble_eq_true rfl) (by decide +kernel))
theorem dl_1309 : decode code 1309 = .ok (.iadd, 1) := dc_96 (dcc (r := 29) lq_20 rfl (Nat.le_of_ble_eq_true rfl) (by decide +kernel))
theorem dl_1310 : decode code 1310 = .ok (.iaload, 1) := dc_46 (dcc (r := 30) lq_20 rfl (Nat.le_of_ble_eq_true rfl) (by decide +kernel))
theorem dl_1311 : decode code 1311 = .ok (.aload_n 0, 1) := dc_42 (dcc (r := 31) lq_20 rfl (Nat.le_of_ble_eq_true rfl) (by decide +kernel))
theorem dl_1312 : decode code 1312 = .ok (.iload_n 3, 1) := dc_29 (dcc (r := 32) lq_20 rfl (Nat.le_of_ble_eq_true rfl) (by decide +kernel))
theorem dl_1313 : decode code 1313 = .ok (.iconst 4, 1) := dc_7 (dcc (r := 33) lq_20 rfl (Nat.le_of_ble_eq_true rfl) (by decide +kernel))
theorem dl_1314 : decode code 1314 = .ok (.iadd, 1) := dc_96 (dcc (r := 34) lq_20 rfl (Nat.le_of_ble_eq_true rfl) (by decide +kernel))
theorem dl_1315 : decode code 1315 = .ok (.iaload, 1) := dc_46 (dcc (r := 35) lq_20 rfl (Nat.le_of_ble_eq_true rfl) (by decide +kernel))
theorem dl_1316 : decode code 1316 = .ok (.invokevirtual 160, 3) := dc_182 (a := 0) (b := 160) (dcc (r := 36) lq_20 rfl (Nat.le_of_ble_eq_true rfl) (by decide +kernel)) rfl
theorem dl_1319 : decode code 1319 = .ok (.pop, 1) := dc_87 (dcc (r := 39) lq_20 rfl (Nat.le_of_ble_eq_true rfl) (by decide +kernel))
theorem dl_1320 : decode code 1320 = .ok (.goto 39, 3) := dc_167 (a := 0) (b := 39) (dcc (r := 40) lq_20 rfl (Nat.le_of_ble_eq_true rfl) (by decide +kernel)) rfl
theorem dl_1323 : decode code 1323 = .ok (.aload_n 1, 1) := dc_43 (dcc (r := 43) lq_20 rfl (Nat.le_of_ble_eq_true rfl) (by decide +kernel))
theorem dl_1324 : decode code 1324 = .ok (.invokevirtual 161, 3) := dc_182 (a := 0) (b := 161) (dcc (r := 44) lq_20 rfl (Nat.le_of_ble_eq_true rfl) (by decide +kernel)) rfl
theorem dl_1327 : decode code 1327 = .ok (.pop, 1) := dc_87 (dcc (r := 47) lq_20 rfl (Nat.le_of_ble_eq_true rfl) (by decide +kernel))
theorem dl_1328 : decode code 1328 = .ok (.aload_n 2, 1) := dc_44 (dcc (r := 48) lq_20 rfl (Nat.le_of_ble_eq_true rfl) (by decide +kernel))
theorem dl_1329 : decode code 1329 = .ok (.invokevirtual 164, 3) := dc_182 (a := 0) (b := 164) (dcc (r := 49) lq_20 rfl (Nat.le_of_ble_eq_true rfl) (by decide +kernel)) rfl
theorem dl_1332 : decode code 1332 = .ok (.pop, 1) := dc_87 (dcc (r := 52) lq_20 rfl (Nat.le_of_ble_eq_true rfl) (by decide +kernel))
theorem dl_1333 : decode code 1333 = .ok (.goto 26, 3) := dc_167 (a := 0) (b := 26) (dcc (r := 53) lq_20 rfl (Nat.le_of_ble_eq_true rfl) (by decide +kernel)) rfl
theorem dl_1336 : decode code 1336 = .ok (.aload_n 1, 1) := dc_43 (dcc (r := 56) lq_20 rfl (Nat.le_of_ble_eq_true rfl) (by decide +kernel))
theorem dl_1337 : decode code 1337 = .ok (.aload_n 0, 1) := dc_42 (dcc (r := 57) lq_20 rfl (Nat.le_of_ble_eq_true rfl) (by decide +kernel))
theorem dl_1338 : decode code 1338 = .ok (.iload_n 3, 1) := dc_29 (dcc (r := 58) lq_20 rfl (Nat.le_of_ble_eq_true rfl) (by decide +kernel))
theorem dl_1339 : decode code 1339 = .ok (.iconst 1, 1) := dc_4 (dcc (r := 59) lq_20 rfl (Nat.le_of_ble_eq_true rfl) (by decide +kernel))
theorem dl_1340 : decode code 1340 = .ok (.iadd, 1) := dc_96 (dcc (r := 60) lq_20 rfl (Nat.le_of_ble_eq_true rfl) (by decide +kernel))
theorem dl_1341 : decode code 1341 = .ok (.iaload, 1) := dc_46 (dcc (r := 61) lq_20 rfl (Nat.le_of_ble_eq_true rfl) (by decide +kernel))
theorem dl_1342 : decode code 1342 = .ok (.invokevirtual 165, 3) := dc_182 (a := 0) (b := 165) (dcc (r := 62) lq_20 rfl (Nat.le_of_ble_eq_true rfl) (by decide +kernel)) rfl
theorem dl_1345 : decode code 1345 = .ok (.pop, 1) := dc_87 (dcc (r := 1) lq_21 rfl (Nat.le_of_ble_eq_true rfl) (by decide +kernel))
theorem dl_1346 : decode code 1346 = .ok (.aload_n 2, 1) := dc_44 (dcc (r := 2) lq_21 rfl (Nat.le_of_ble_eq_true rfl) (by decide +kernel))
theorem dl_1347 : decode code 1347 = .ok (.aload_n 0, 1) := dc_42 (dcc (r := 3) lq_21 rfl (Nat.le_of_ble_eq_true rfl) (by decide +kernel))
theorem dl_1348 : decode code 1348 = .ok (.iload_n 3, 1) := dc_29 (dcc (r := 4) lq_21 rfl (Nat.le_of_ble_eq_true rfl) (by decide +kernel))
theorem dl_1349 : decode code 1349 = .ok (.iconst 1, 1) := dc_4 (dcc (r := 5) lq_21 rfl (Nat.le_of_ble_eq_true rfl) (by decide +kernel))
theorem dl_1350 : decode code 1350 = .ok (.iadd, 1) := dc_96 (dcc (r := 6) lq_21 rfl (Nat.le_of_ble_eq_true rfl) (by decide +kernel))
theorem dl_1351 : decode code 1351 = .ok (.iaload, 1) := dc_46 (dcc (r := 7) lq_21 rfl (Nat.le_of_ble_eq_true rfl) (by decide +kernel))
theorem dl_1352 : decode code 1352 = .ok (.invokevirtual 168, 3) := dc_182 (a := 0) (b := 168) (dcc (r := 8) lq_21 rfl (Nat.le_of_ble_eq_true rfl) (by decide +kernel)) rfl
theorem dl_1355 : decode code 1355 = .ok (.pop, 1) := dc_87 (dcc (r := 11) lq_21 rfl (Nat.le_of_ble_eq_true rfl) (by decide +kernel))
theorem dl_1356 : decode code 1356 = .ok (.goto 3, 3) := dc_167 (a := 0) (b := 3) (dcc (r := 12) lq_21 rfl (Nat.le_of_ble_eq_true rfl) (by decide +kernel)) rfl
theorem dl_1359 : decode code 1359 = .ok (.iinc 3 5, 3) := dc_132 (a := 3) (b := 5) (dcc (r := 15) lq_21 rfl (Nat.le_of_ble_eq_true rfl) (by decide +kernel)) rfl
theorem dl_1362 : decode code 1362 = .ok (.goto (-1344), 3) := dc_167 (a := 250) (b := 192) (dcc (r := 18) lq_21 rfl (Nat.le_of_ble_eq_true rfl) (by decide +kernel)) rfl
theorem dl_1365 : decode code 1365 = .ok (.iconst 1, 1) := dc_4 (dcc (r := 21) lq_21 rfl (Nat.le_of_ble_eq_true rfl) (by decide +kernel))
theorem dl_1366 : decode code 1366 = .ok (.ireturn, 1) := dc_172 (dcc (r := 22) lq_21 rfl (Nat.le_of_ble_eq_true rfl) (by decide +kernel))
end
