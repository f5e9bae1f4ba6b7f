abbrev q_Land_besideX_0 (h : Hp) (c : Int32) (cZ : Int) (a : Int32) (aZ : Int) (w : Int32) (wZ : Int) (g : Int32) (gZ : Int) : Option Value → Hp → Prop := pInt (fun r h' => h = h' ∧ (r.toInt = bsd wZ gZ cZ aZ.toNat))
set_option maxRecDepth 100000 in
theorem c_Land_besideX_0 (h : Hp) (hI : Inv h) (c : Int32) (cZ : Int) (cE : c.toInt = cZ) (a : Int32) (aZ : Int) (aE : a.toInt = aZ) (w : Int32) (wZ : Int) (wE : w.toInt = wZ) (wK : h.1 1 0 = w) (g : Int32) (gZ : Int) (gE : g.toInt = gZ) (gK : h.1 1 1 = g) (hy0 : 0 ≤ cZ ∧ cZ < wZ * gZ) (hy1 : 0 ≤ aZ ∧ aZ ≤ 3) : Ct y_Land_beside b_Land_beside 4 (some .int) 2 41 [.ref 1, .int c, .int a] h (q_Land_besideX_0 h c cZ a aZ w wZ g gZ) := by
  refine ct_ow R_Land [some (.ref 1), some (.int c), some (.int a), none] rfl (by decide) rfl (Nat.le_of_ble_eq_true rfl) ?_
  have f0 : fr [] h h := fr_rf
  have g1 : 2 ≤ wZ ∧ wZ ≤ 4 := inv_at hI wE wK.symm rfl
  have g2 : 2 ≤ gZ ∧ gZ ≤ 4 := inv_at hI gE gK.symm rfl
  have m24 := mul24 (A := wZ) (B := gZ) (by omega) (by omega)
  refine V_aload_n 0 d_Land_beside_0 rfl rfl ?_
  refine V_iload_n 1 d_Land_beside_1 rfl rfl ?_
  refine N_callVI [.int c] [] cv_Land_75 sk_1 rfl d_Land_beside_2 rfl (Nat.le_of_ble_eq_true rfl) (by decide) (by decide) (c_Land_hasX_0 h hI c cZ cE w wZ wE wK g gZ gE gK) (fun z3 h4 z3Z z3E p5 => ?_)
  obtain ⟨eh4, p5⟩ := p5
  subst eh4
  refine V_if_ne 10 z3E d_Land_beside_5 (by decide) (fun c6 => ?_) (fun c6 => ?_)
  ·
    refine V_iload_n 1 d_Land_beside_10 rfl rfl ?_
    refine V_aload_n 0 d_Land_beside_11 rfl rfl ?_
    refine N_getK fa_Land_27 sk_1 rfl d_Land_beside_12 wK ?_
    refine N_irem cE wE (by omega) d_Land_beside_15 (fun z7 z7e z7E => ?_)
    obtain ⟨z7Z, z7G⟩ : ∃ Y : Int, Y = cZ % wZ := ⟨_, rfl⟩
    rw [← z7G] at z7E
    have g8 : 0 ≤ z7Z ∧ z7Z < wZ := by rw [z7G]; exact ⟨Int.emod_nonneg _ (by omega), Int.emod_lt_of_pos _ (by omega)⟩
    have hcol : z7Z = cZ % wZ := z7G
    refine V_istore_n 3 [some (.ref 1), some (.int c), some (.int a), some (.int z7)] d_Land_beside_16 rfl (by decide) rfl rfl ?_
    refine V_iload_n 2 d_Land_beside_17 rfl rfl ?_
    rcases (by omega : (aZ < 0 ∨ 2 < aZ) ∨ aZ = 0 ∨ aZ = 1 ∨ aZ = 2) with c9 | c9 | c9 | c9
    ·
      refine V_tabOut 93 aE d_Land_beside_18 c9 (by decide) ?_
      refine V_aload_n 0 d_Land_beside_93 rfl rfl ?_
      refine V_iload_n 1 d_Land_beside_94 rfl rfl ?_
      refine V_aload_n 0 d_Land_beside_95 rfl rfl ?_
      refine N_getK fa_Land_27 sk_1 rfl d_Land_beside_96 wK ?_
      refine V_iadd cE wE (by omega) d_Land_beside_99 (fun z10 z10e z10E => ?_)
      refine N_callVI [.int z10] [] cv_Land_75 sk_1 rfl d_Land_beside_100 rfl (Nat.le_of_ble_eq_true rfl) (by decide) (by decide) (c_Land_hasX_0 h hI z10 ((cZ + wZ)) z10E w wZ wE wK g gZ gE gK) (fun z11 h12 z11Z z11E p13 => ?_)
      obtain ⟨eh12, p13⟩ := p13
      subst eh12
      refine V_if_eq 115 z11E d_Land_beside_103 (by decide) (fun c14 => ?_) (fun c14 => ?_)
      ·
        refine V_iconst (-1) d_Land_beside_115 (by decide) ?_
        exact V_iret rfl d_Land_beside_116 ⟨(-1), rfl, ⟨rfl, (by rw [show Int32.toInt (-1) = (-1) from rfl]; rw [show aZ.toNat = 3 by omega]; unfold bsd; rw [if_neg (by decide), if_neg (by decide), if_neg (by decide)]; rw [if_neg (by omega)])⟩⟩
      ·
        refine V_iload_n 1 d_Land_beside_106 rfl rfl ?_
        refine V_aload_n 0 d_Land_beside_107 rfl rfl ?_
        refine N_getK fa_Land_27 sk_1 rfl d_Land_beside_108 wK ?_
        refine V_iadd cE wE (by omega) d_Land_beside_111 (fun z15 z15e z15E => ?_)
        refine V_goto 116 d_Land_beside_112 (by decide) ?_
        exact V_iret rfl d_Land_beside_116 ⟨z15, rfl, ⟨rfl, (by rw [z15E]; rw [show aZ.toNat = 3 by omega]; unfold bsd; rw [if_neg (by decide), if_neg (by decide), if_neg (by decide)]; rw [if_pos (by omega)])⟩⟩
    ·
      refine V_tabIn 44 aE d_Land_beside_18 (by omega) (by omega) (by rw [c9]; rfl) (by decide) ?_
      refine V_iload_n 1 d_Land_beside_44 rfl rfl ?_
      refine V_aload_n 0 d_Land_beside_45 rfl rfl ?_
      refine N_getK fa_Land_27 sk_1 rfl d_Land_beside_46 wK ?_
      refine V_icmp_lt 61 cE wE d_Land_beside_49 (by decide) (fun c16 => ?_) (fun c16 => ?_)
      ·
        refine V_iconst (-1) d_Land_beside_61 (by decide) ?_
        exact V_iret rfl d_Land_beside_62 ⟨(-1), rfl, ⟨rfl, (by rw [show Int32.toInt (-1) = (-1) from rfl]; rw [show aZ.toNat = 0 by omega]; unfold bsd; rw [if_pos rfl]; rw [if_neg (by omega)])⟩⟩
      ·
        refine V_iload_n 1 d_Land_beside_52 rfl rfl ?_
        refine V_aload_n 0 d_Land_beside_53 rfl rfl ?_
        refine N_getK fa_Land_27 sk_1 rfl d_Land_beside_54 wK ?_
        refine V_isub cE wE (by omega) d_Land_beside_57 (fun z17 z17e z17E => ?_)
        refine V_goto 62 d_Land_beside_58 (by decide) ?_
        exact V_iret rfl d_Land_beside_62 ⟨z17, rfl, ⟨rfl, (by rw [z17E]; rw [show aZ.toNat = 0 by omega]; unfold bsd; rw [if_pos rfl]; rw [if_pos (by omega)])⟩⟩
    ·
      refine V_tabIn 63 aE d_Land_beside_18 (by omega) (by omega) (by rw [c9]; rfl) (by decide) ?_
      refine V_iload_n 3 d_Land_beside_63 rfl rfl ?_
      refine V_if_le 73 z7E d_Land_beside_64 (by decide) (fun c18 => ?_) (fun c18 => ?_)
      ·
        refine V_iconst (-1) d_Land_beside_73 (by decide) ?_
        exact V_iret rfl d_Land_beside_74 ⟨(-1), rfl, ⟨rfl, (by rw [show Int32.toInt (-1) = (-1) from rfl]; rw [show aZ.toNat = 1 by omega]; unfold bsd; rw [if_neg (by decide), if_pos rfl, ← hcol]; rw [if_neg (by omega)])⟩⟩
      ·
        refine V_iload_n 1 d_Land_beside_67 rfl rfl ?_
        refine V_iconst 1 d_Land_beside_68 (by decide) ?_
        refine V_isub cE tc_1 (by omega) d_Land_beside_69 (fun z19 z19e z19E => ?_)
        refine V_goto 74 d_Land_beside_70 (by decide) ?_
        exact V_iret rfl d_Land_beside_74 ⟨z19, rfl, ⟨rfl, (by rw [z19E]; rw [show aZ.toNat = 1 by omega]; unfold bsd; rw [if_neg (by decide), if_pos rfl, ← hcol]; rw [if_pos (by omega)])⟩⟩
    ·
      refine V_tabIn 75 aE d_Land_beside_18 (by omega) (by omega) (by rw [c9]; rfl) (by decide) ?_
      refine V_iload_n 3 d_Land_beside_75 rfl rfl ?_
      refine V_aload_n 0 d_Land_beside_76 rfl rfl ?_
      refine N_getK fa_Land_27 sk_1 rfl d_Land_beside_77 wK ?_
      refine V_iconst 1 d_Land_beside_80 (by decide) ?_
      refine V_isub wE tc_1 (by omega) d_Land_beside_81 (fun z20 z20e z20E => ?_)
      refine V_icmp_ge 91 z7E z20E d_Land_beside_82 (by decide) (fun c21 => ?_) (fun c21 => ?_)
      ·
        refine V_iconst (-1) d_Land_beside_91 (by decide) ?_
        exact V_iret rfl d_Land_beside_92 ⟨(-1), rfl, ⟨rfl, (by rw [show Int32.toInt (-1) = (-1) from rfl]; rw [show aZ.toNat = 2 by omega]; unfold bsd; rw [if_neg (by decide), if_neg (by decide), if_pos rfl, ← hcol]; rw [if_neg (by omega)])⟩⟩
      ·
        refine V_iload_n 1 d_Land_beside_85 rfl rfl ?_
        refine V_iconst 1 d_Land_beside_86 (by decide) ?_
        refine V_iadd cE tc_1 (by omega) d_Land_beside_87 (fun z22 z22e z22E => ?_)
        refine V_goto 92 d_Land_beside_88 (by decide) ?_
        exact V_iret rfl d_Land_beside_92 ⟨z22, rfl, ⟨rfl, (by rw [z22E]; rw [show aZ.toNat = 2 by omega]; unfold bsd; rw [if_neg (by decide), if_neg (by decide), if_pos rfl, ← hcol]; rw [if_pos (by omega)])⟩⟩
  ·
    exact absurd c6 (by omega)
abbrev q_Mod_besideX (h : Hp) (c : Int32) (cZ : Int) (a : Int32) (aZ : Int) (w : Int32) (wZ : Int) (g : Int32) (gZ : Int) : Option Value → Hp → Prop := pInt (fun r h' => h = h' ∧ (r.toInt = mb (bsd wZ gZ cZ aZ.toNat)))
set_option maxRecDepth 100000 in
theorem c_Mod_besideX (h : Hp) (hI : Inv h) (c : Int32) (cZ : Int) (cE : c.toInt = cZ) (a : Int32) (aZ : Int) (aE : a.toInt = aZ) (w : Int32) (wZ : Int) (wE : w.toInt = wZ) (wK : h.1 116 2 = w) (g : Int32) (gZ : Int) (gE : g.toInt = gZ) (gK : h.1 116 3 = g) (hy0 : 0 ≤ cZ ∧ cZ < wZ * gZ) (hy1 : 0 ≤ aZ ∧ aZ ≤ 3) : Ct y_Mod_beside b_Mod_beside 4 (some .int) 1 20 [.ref 116, .int c, .int a] h (q_Mod_besideX h c cZ a aZ w wZ g gZ) := by
  refine ct_ow R_Mod [some (.ref 116), some (.int c), some (.int a), none] rfl (by decide) rfl (Nat.le_of_ble_eq_true rfl) ?_
  have f0 : fr [] h h := fr_rf
  have g1 : 2 ≤ wZ ∧ wZ ≤ 4 := inv_at hI wE wK.symm rfl
  have g2 : 2 ≤ gZ ∧ gZ ≤ 4 := inv_at hI gE gK.symm rfl
  have m24 := mul24 (A := wZ) (B := gZ) (by omega) (by omega)
  refine V_iload_n 1 d_Mod_beside_0 rfl rfl ?_
  refine V_aload_n 0 d_Mod_beside_1 rfl rfl ?_
  refine N_getK fa_Mod_81 sk_116 rfl d_Mod_beside_2 wK ?_
  refine N_irem cE wE (by omega) d_Mod_beside_5 (fun z3 z3e z3E => ?_)
  obtain ⟨z3Z, z3G⟩ : ∃ Y : Int, Y = cZ % wZ := ⟨_, rfl⟩
  rw [← z3G] at z3E
  have g4 : 0 ≤ z3Z ∧ z3Z < wZ := by rw [z3G]; exact ⟨Int.emod_nonneg _ (by omega), Int.emod_lt_of_pos _ (by omega)⟩
  have hcol : z3Z = cZ % wZ := z3G
  refine V_istore_n 3 [some (.ref 116), some (.int c), some (.int a), some (.int z3)] d_Mod_beside_6 rfl (by decide) rfl rfl ?_
  refine V_iload_n 2 d_Mod_beside_7 rfl rfl ?_
  rcases (by omega : (aZ < 0 ∨ 2 < aZ) ∨ aZ = 0 ∨ aZ = 1 ∨ aZ = 2) with c5 | c5 | c5 | c5
  ·
    refine V_tabOut 88 aE d_Mod_beside_8 c5 (by decide) ?_
    refine V_iload_n 1 d_Mod_beside_88 rfl rfl ?_
    refine V_aload_n 0 d_Mod_beside_89 rfl rfl ?_
    refine N_getK fa_Mod_81 sk_116 rfl d_Mod_beside_90 wK ?_
    refine V_iadd cE wE (by omega) d_Mod_beside_93 (fun z6 z6e z6E => ?_)
    refine V_aload_n 0 d_Mod_beside_94 rfl rfl ?_
    refine N_callVI [] [.int z6] cv_Mod_183 sk_116 rfl d_Mod_beside_95 rfl (Nat.le_of_ble_eq_true rfl) (by decide) (by decide) (c_Mod_cellMany h hI w wZ wE wK g gZ gE gK) (fun z7 h8 z7Z z7E p9 => ?_)
    obtain ⟨eh8, p9⟩ := p9
    subst eh8
    refine V_icmp_ge 110 z6E z7E d_Mod_beside_98 (by decide) (fun c10 => ?_) (fun c10 => ?_)
    ·
      refine V_bipush (-4) d_Mod_beside_110 (by decide) ?_
      exact V_iret rfl d_Mod_beside_112 ⟨(-4), rfl, ⟨rfl, (by rw [show Int32.toInt (-4) = (-4) from rfl]; rw [show aZ.toNat = 3 by omega]; unfold bsd; rw [if_neg (by decide), if_neg (by decide), if_neg (by decide)]; rw [if_neg (by omega)]; unfold mb; rw [if_pos (by omega)])⟩⟩
    ·
      refine V_iload_n 1 d_Mod_beside_101 rfl rfl ?_
      refine V_aload_n 0 d_Mod_beside_102 rfl rfl ?_
      refine N_getK fa_Mod_81 sk_116 rfl d_Mod_beside_103 wK ?_
      refine V_iadd cE wE (by omega) d_Mod_beside_106 (fun z11 z11e z11E => ?_)
      refine V_goto 112 d_Mod_beside_107 (by decide) ?_
      exact V_iret rfl d_Mod_beside_112 ⟨z11, rfl, ⟨rfl, (by rw [z11E]; rw [show aZ.toNat = 3 by omega]; unfold bsd; rw [if_neg (by decide), if_neg (by decide), if_neg (by decide)]; rw [if_pos (by omega)]; unfold mb; rw [if_neg (by omega)])⟩⟩
  ·
    refine V_tabIn 36 aE d_Mod_beside_8 (by omega) (by omega) (by rw [c5]; rfl) (by decide) ?_
    refine V_iload_n 1 d_Mod_beside_36 rfl rfl ?_
    refine V_aload_n 0 d_Mod_beside_37 rfl rfl ?_
    refine N_getK fa_Mod_81 sk_116 rfl d_Mod_beside_38 wK ?_
    refine V_icmp_lt 53 cE wE d_Mod_beside_41 (by decide) (fun c12 => ?_) (fun c12 => ?_)
    ·
      refine V_bipush (-4) d_Mod_beside_53 (by decide) ?_
      exact V_iret rfl d_Mod_beside_55 ⟨(-4), rfl, ⟨rfl, (by rw [show Int32.toInt (-4) = (-4) from rfl]; rw [show aZ.toNat = 0 by omega]; unfold bsd; rw [if_pos rfl]; rw [if_neg (by omega)]; unfold mb; rw [if_pos (by omega)])⟩⟩
    ·
      refine V_iload_n 1 d_Mod_beside_44 rfl rfl ?_
      refine V_aload_n 0 d_Mod_beside_45 rfl rfl ?_
      refine N_getK fa_Mod_81 sk_116 rfl d_Mod_beside_46 wK ?_
      refine V_isub cE wE (by omega) d_Mod_beside_49 (fun z13 z13e z13E => ?_)
      refine V_goto 55 d_Mod_beside_50 (by decide) ?_
      exact V_iret rfl d_Mod_beside_55 ⟨z13, rfl, ⟨rfl, (by rw [z13E]; rw [show aZ.toNat = 0 by omega]; unfold bsd; rw [if_pos rfl]; rw [if_pos (by omega)]; unfold mb; rw [if_neg (by omega)])⟩⟩
  ·
    refine V_tabIn 56 aE d_Mod_beside_8 (by omega) (by omega) (by rw [c5]; rfl) (by decide) ?_
    refine V_iload_n 3 d_Mod_beside_56 rfl rfl ?_
    refine V_if_le 66 z3E d_Mod_beside_57 (by decide) (fun c14 => ?_) (fun c14 => ?_)
    ·
      refine V_bipush (-4) d_Mod_beside_66 (by decide) ?_
      exact V_iret rfl d_Mod_beside_68 ⟨(-4), rfl, ⟨rfl, (by rw [show Int32.toInt (-4) = (-4) from rfl]; rw [show aZ.toNat = 1 by omega]; unfold bsd; rw [if_neg (by decide), if_pos rfl, ← hcol]; rw [if_neg (by omega)]; unfold mb; rw [if_pos (by omega)])⟩⟩
    ·
      have hcp := emod_p (c := cZ) (w := wZ) (by omega) (by omega)
      refine V_iload_n 1 d_Mod_beside_60 rfl rfl ?_
      refine V_iconst 1 d_Mod_beside_61 (by decide) ?_
      refine V_isub cE tc_1 (by omega) d_Mod_beside_62 (fun z15 z15e z15E => ?_)
      refine V_goto 68 d_Mod_beside_63 (by decide) ?_
      exact V_iret rfl d_Mod_beside_68 ⟨z15, rfl, ⟨rfl, (by rw [z15E]; rw [show aZ.toNat = 1 by omega]; unfold bsd; rw [if_neg (by decide), if_pos rfl, ← hcol]; rw [if_pos (by omega)]; unfold mb; rw [if_neg (by omega)])⟩⟩
  ·
    refine V_tabIn 69 aE d_Mod_beside_8 (by omega) (by omega) (by rw [c5]; rfl) (by decide) ?_
    refine V_iload_n 3 d_Mod_beside_69 rfl rfl ?_
    refine V_iconst 1 d_Mod_beside_70 (by decide) ?_
    refine V_iadd z3E tc_1 (by omega) d_Mod_beside_71 (fun z16 z16e z16E => ?_)
    refine V_aload_n 0 d_Mod_beside_72 rfl rfl ?_
    refine N_getK fa_Mod_81 sk_116 rfl d_Mod_beside_73 wK ?_
    refine V_icmp_ge 85 z16E wE d_Mod_beside_76 (by decide) (fun c17 => ?_) (fun c17 => ?_)
    ·
      refine V_bipush (-4) d_Mod_beside_85 (by decide) ?_
      exact V_iret rfl d_Mod_beside_87 ⟨(-4), rfl, ⟨rfl, (by rw [show Int32.toInt (-4) = (-4) from rfl]; rw [show aZ.toNat = 2 by omega]; unfold bsd; rw [if_neg (by decide), if_neg (by decide), if_pos rfl, ← hcol]; rw [if_neg (by omega)]; unfold mb; rw [if_pos (by omega)])⟩⟩
    ·
      refine V_iload_n 1 d_Mod_beside_79 rfl rfl ?_
      refine V_iconst 1 d_Mod_beside_80 (by decide) ?_
      refine V_iadd cE tc_1 (by omega) d_Mod_beside_81 (fun z18 z18e z18E => ?_)
      refine V_goto 87 d_Mod_beside_82 (by decide) ?_
      exact V_iret rfl d_Mod_beside_87 ⟨z18, rfl, ⟨rfl, (by rw [z18E]; rw [show aZ.toNat = 2 by omega]; unfold bsd; rw [if_neg (by decide), if_neg (by decide), if_pos rfl, ← hcol]; rw [if_pos (by omega)]; unfold mb; rw [if_neg (by omega)])⟩⟩
abbrev q_Walks_bestBesideX (h : Hp) (c : Int32) (cZ : Int) (d : Int32) (dZ : Int) (w : Int32) (wZ : Int) (g : Int32) (gZ : Int) : Option Value → Hp → Prop := pInt (fun r h' => h = h' ∧ (r.toInt = bbN (fun i => (h.1 (95 + dZ.toNat) i).toInt) wZ gZ cZ 4))
set_option maxRecDepth 100000 in
theorem c_Walks_bestBesideX (h : Hp) (hI : Inv h) (c : Int32) (cZ : Int) (cE : c.toInt = cZ) (d : Int32) (dZ : Int) (dE : d.toInt = dZ) (w : Int32) (wZ : Int) (wE : w.toInt = wZ) (wK : h.1 1 0 = w) (g : Int32) (gZ : Int) (gE : g.toInt = gZ) (gK : h.1 1 1 = g) (hy0 : 0 ≤ dZ ∧ dZ ≤ 5) (hy1 : 0 ≤ cZ ∧ cZ < wZ * gZ) : Ct y_Walks_bestBeside b_Walks_bestBeside 7 (some .int) 3 64 [.ref 93, .ref 1, .int c, .int d] h (q_Walks_bestBesideX h c cZ d dZ w wZ g gZ) := by
  refine ct_ow R_Walks [some (.ref 93), some (.ref 1), some (.int c), some (.int d), none, none, none] rfl (by decide) rfl (Nat.le_of_ble_eq_true rfl) ?_
  have f0 : fr [] h h := fr_rf
  have g1 : 2 ≤ wZ ∧ wZ ≤ 4 := inv_at hI wE wK.symm rfl
  have g2 : 2 ≤ gZ ∧ gZ ≤ 4 := inv_at hI gE gK.symm rfl
  have m24 := mul24 (A := wZ) (B := gZ) (by omega) (by omega)
  have bw := (bsd_b (W := wZ) (G := gZ) (c := cZ) (by omega) (by omega) (by omega)).1
  refine V_iconst (-1) d_Walks_bestBeside_0 (by decide) ?_
  refine V_istore 4 [some (.ref 93), some (.ref 1), some (.int c), some (.int d), some (.int (-1)), none, none] d_Walks_bestBeside_1 (by decide) rfl rfl ?_
  refine V_iconst 0 d_Walks_bestBeside_3 (by decide) ?_
  refine V_istore 5 [some (.ref 93), some (.ref 1), some (.int c), some (.int d), some (.int (-1)), some (.int 0), none] d_Walks_bestBeside_4 (by decide) rfl rfl ?_
  have L3 : ∀ (nn : Nat) (v5 : Int32) (v5Z : Int) (v6 : Int32) (v6Z : Int), v5.toInt = v5Z → v6.toInt = v6Z → 0 ≤ v6Z ∧ v6Z ≤ 4 → v5Z = bbN (fun i => (h.1 (95 + dZ.toNat) i).toInt) wZ gZ cZ (v6Z).toNat → 4 - v6Z < (nn : Int) → V R_Walks b_Walks_bestBeside 7 (some .int) 3 64 (q_Walks_bestBesideX h c cZ d dZ w wZ g gZ) h 6 [some (.ref 93), some (.ref 1), some (.int c), some (.int d), some (.int v5), some (.int v6), none] [] := by
    intro nn
    induction nn with
    | zero => intro v5 v5Z v6 v6Z v5E v6E q7 q8 hm9; exact absurd hm9 (by omega)
    | succ nn ihL3 =>
      intro v5 v5Z v6 v6Z v5E v6E q7 q8 hm9
      refine V_iload d_Walks_bestBeside_6 rfl ?_
      refine V_iconst 4 d_Walks_bestBeside_8 (by decide) ?_
      refine V_icmp_ge 62 v6E tc_4 d_Walks_bestBeside_9 (by decide) (fun c10 => ?_) (fun c10 => ?_)
      ·
        refine V_iload d_Walks_bestBeside_62 rfl ?_
        exact V_iret rfl d_Walks_bestBeside_64 ⟨v5, rfl, ⟨rfl, (by rw [v5E, show (4 : Nat) = (v6Z).toNat by omega]; assumption)⟩⟩
      ·
        have bq := bbN_b (f := (fun i => (h.1 (95 + dZ.toNat) i).toInt)) (W := wZ) (G := gZ) (c := cZ) (by omega) (by omega) (by omega) (v6Z).toNat (by omega)
        refine V_aload_n 1 d_Walks_bestBeside_12 rfl rfl ?_
        refine V_iload_n 2 d_Walks_bestBeside_13 rfl rfl ?_
        refine V_iload d_Walks_bestBeside_14 rfl ?_
        refine N_callVI [.int c, .int v6] [] cv_Walks_47 sk_1 rfl d_Walks_bestBeside_16 rfl (Nat.le_of_ble_eq_true rfl) (by decide) (by decide) (c_Land_besideX_0 h hI c cZ cE v6 v6Z v6E w wZ wE wK g gZ gE gK (by omega) (by omega)) (fun z11 h12 z11Z z11E p13 => ?_)
        obtain ⟨eh12, p13⟩ := p13
        subst eh12
        have hk9 : z11Z = bsd wZ gZ cZ (v6Z).toNat := z11E.symm.trans p13
        have bk := bw (v6Z).toNat (by omega)
        refine V_istore 6 [some (.ref 93), some (.ref 1), some (.int c), some (.int d), some (.int v5), some (.int v6), some (.int z11)] d_Walks_bestBeside_19 (by decide) rfl rfl ?_
        refine V_iload d_Walks_bestBeside_21 rfl ?_
        refine V_if_lt 56 z11E d_Walks_bestBeside_23 (by decide) (fun c14 => ?_) (fun c14 => ?_)
        ·
          have hb9 := bb_n (f := (fun i => (h.1 (95 + dZ.toNat) i).toInt)) (n := v6Z) (by omega) hk9 (by assumption) (Or.inl (by omega) : _ ∨ _ ∧ (0 : Int) = _ ∧ (0 : Int) = _ ∧ (0 : Int) ≤ 0)
          obtain ⟨z15, z15E, z15e⟩ : ∃ y : Int32, y.toInt = v6Z + 1 ∧ y = v6 + Int32.ofInt 1 := ⟨_, ti_add v6E (by decide) (by omega), rfl⟩
          refine V_iinc 5 [some (.ref 93), some (.ref 1), some (.int c), some (.int d), some (.int v5), some (.int z15), some (.int z11)] d_Walks_bestBeside_56 rfl z15e.symm (by decide) rfl rfl ?_
          refine V_goto 6 d_Walks_bestBeside_59 (by decide) ?_
          refine V_drop 6 [some (.ref 93), some (.ref 1), some (.int c), some (.int d), some (.int v5), some (.int z15), none] rfl ?_
          exact ihL3 v5 v5Z z15 ((v6Z + 1)) v5E z15E (by omega) hb9 (by omega)
        ·
          refine V_iload d_Walks_bestBeside_26 rfl ?_
          refine V_if_lt 52 v5E d_Walks_bestBeside_28 (by decide) (fun c16 => ?_) (fun c16 => ?_)
          ·
            refine V_iload d_Walks_bestBeside_52 rfl ?_
            refine V_istore 4 [some (.ref 93), some (.ref 1), some (.int c), some (.int d), some (.int z11), some (.int v6), some (.int z11)] d_Walks_bestBeside_54 (by decide) rfl rfl ?_
            have hb9 := bb_y (f := (fun i => (h.1 (95 + dZ.toNat) i).toInt)) (n := v6Z) (by omega) hk9 (by assumption) (by omega) (Or.inl (by omega) : _ ∨ (0 : Int) = _ ∧ (0 : Int) = _ ∧ (0 : Int) < 0)
            obtain ⟨z17, z17E, z17e⟩ : ∃ y : Int32, y.toInt = v6Z + 1 ∧ y = v6 + Int32.ofInt 1 := ⟨_, ti_add v6E (by decide) (by omega), rfl⟩
            refine V_iinc 5 [some (.ref 93), some (.ref 1), some (.int c), some (.int d), some (.int z11), some (.int z17), some (.int z11)] d_Walks_bestBeside_56 rfl z17e.symm (by decide) rfl rfl ?_
            refine V_goto 6 d_Walks_bestBeside_59 (by decide) ?_
            refine V_drop 6 [some (.ref 93), some (.ref 1), some (.int c), some (.int d), some (.int z11), some (.int z17), none] rfl ?_
            exact ihL3 z11 z11Z z17 ((v6Z + 1)) z11E z17E (by omega) hb9 (by omega)
          ·
            refine V_aload_n 0 d_Walks_bestBeside_31 rfl rfl ?_
            refine V_getR fa_Walks_11 sk_93 rfl d_Walks_bestBeside_32 ?_
            refine V_iload_n 3 d_Walks_bestBeside_35 rfl rfl ?_
            refine V_aald (r := (95 + (dZ).toNat)) sk_94 (by decide) dE (by omega) (gridAt (by omega)) d_Walks_bestBeside_36 ?_
            refine V_iload d_Walks_bestBeside_37 rfl ?_
            refine N_iald (gridSk (by omega)) z11E (by omega) d_Walks_bestBeside_39 (fun z18 z18Z z18E z18e => ?_)
            refine V_aload_n 0 d_Walks_bestBeside_40 rfl rfl ?_
            refine V_getR fa_Walks_11 sk_93 rfl d_Walks_bestBeside_41 ?_
            refine V_iload_n 3 d_Walks_bestBeside_44 rfl rfl ?_
            refine V_aald (r := (95 + (dZ).toNat)) sk_94 (by decide) dE (by omega) (gridAt (by omega)) d_Walks_bestBeside_45 ?_
            refine V_iload d_Walks_bestBeside_46 rfl ?_
            refine N_iald (gridSk (by omega)) v5E (by omega) d_Walks_bestBeside_48 (fun z19 z19Z z19E z19e => ?_)
            refine V_icmp_le 56 z18E z19E d_Walks_bestBeside_49 (by decide) (fun c20 => ?_) (fun c20 => ?_)
            ·
              have hb9 := bb_n (f := (fun i => (h.1 (95 + dZ.toNat) i).toInt)) (n := v6Z) (by omega) hk9 (by assumption) (Or.inr ⟨by omega, z19E.symm.trans (congrArg Int32.toInt z19e), z18E.symm.trans (congrArg Int32.toInt z18e), by omega⟩)
              obtain ⟨z21, z21E, z21e⟩ : ∃ y : Int32, y.toInt = v6Z + 1 ∧ y = v6 + Int32.ofInt 1 := ⟨_, ti_add v6E (by decide) (by omega), rfl⟩
              refine V_iinc 5 [some (.ref 93), some (.ref 1), some (.int c), some (.int d), some (.int v5), some (.int z21), some (.int z11)] d_Walks_bestBeside_56 rfl z21e.symm (by decide) rfl rfl ?_
              refine V_goto 6 d_Walks_bestBeside_59 (by decide) ?_
              refine V_drop 6 [some (.ref 93), some (.ref 1), some (.int c), some (.int d), some (.int v5), some (.int z21), none] rfl ?_
              exact ihL3 v5 v5Z z21 ((v6Z + 1)) v5E z21E (by omega) hb9 (by omega)
            ·
              refine V_iload d_Walks_bestBeside_52 rfl ?_
              refine V_istore 4 [some (.ref 93), some (.ref 1), some (.int c), some (.int d), some (.int z11), some (.int v6), some (.int z11)] d_Walks_bestBeside_54 (by decide) rfl rfl ?_
              have hb9 := bb_y (f := (fun i => (h.1 (95 + dZ.toNat) i).toInt)) (n := v6Z) (by omega) hk9 (by assumption) (by omega) (Or.inr ⟨z19E.symm.trans (congrArg Int32.toInt z19e), z18E.symm.trans (congrArg Int32.toInt z18e), by omega⟩)
              obtain ⟨z22, z22E, z22e⟩ : ∃ y : Int32, y.toInt = v6Z + 1 ∧ y = v6 + Int32.ofInt 1 := ⟨_, ti_add v6E (by decide) (by omega), rfl⟩
              refine V_iinc 5 [some (.ref 93), some (.ref 1), some (.int c), some (.int d), some (.int z11), some (.int z22), some (.int z11)] d_Walks_bestBeside_56 rfl z22e.symm (by decide) rfl rfl ?_
              refine V_goto 6 d_Walks_bestBeside_59 (by decide) ?_
              refine V_drop 6 [some (.ref 93), some (.ref 1), some (.int c), some (.int d), some (.int z11), some (.int z22), none] rfl ?_
              exact ihL3 z11 z11Z z22 ((v6Z + 1)) z11E z22E (by omega) hb9 (by omega)
  exact L3 (Int.toNat ((4 - 0 : Int) + 1)) (-1) ((-1)) 0 0 tc_m1 tc_0 (by omega) rfl (by omega)
abbrev q_Mod_bestBesideX (h : Hp) (c : Int32) (cZ : Int) (s : Int32) (sZ : Int) (w : Int32) (wZ : Int) (g : Int32) (gZ : Int) : Option Value → Hp → Prop := pInt (fun r h' => h = h' ∧ (r.toInt = bbN (fun i => (h.1 122 (16 * sZ.toNat + i)).toInt) wZ gZ cZ 4))
set_option maxRecDepth 100000 in
theorem c_Mod_bestBesideX (h : Hp) (hI : Inv h) (c : Int32) (cZ : Int) (cE : c.toInt = cZ) (s : Int32) (sZ : Int) (sE : s.toInt = sZ) (w : Int32) (wZ : Int) (wE : w.toInt = wZ) (wK : h.1 116 2 = w) (g : Int32) (gZ : Int) (gE : g.toInt = gZ) (gK : h.1 116 3 = g) (hy0 : 0 ≤ cZ ∧ cZ < wZ * gZ) (hy1 : 1 ≤ sZ ∧ sZ ≤ 6) : Ct y_Mod_bestBeside b_Mod_bestBeside 6 (some .int) 2 43 [.ref 116, .int c, .int s] h (q_Mod_bestBesideX h c cZ s sZ w wZ g gZ) := by
  refine ct_ow R_Mod [some (.ref 116), some (.int c), some (.int s), none, none, none] rfl (by decide) rfl (Nat.le_of_ble_eq_true rfl) ?_
  have f0 : fr [] h h := fr_rf
  have g1 : 2 ≤ wZ ∧ wZ ≤ 4 := inv_at hI wE wK.symm rfl
  have g2 : 2 ≤ gZ ∧ gZ ≤ 4 := inv_at hI gE gK.symm rfl
  have m24 := mul24 (A := wZ) (B := gZ) (by omega) (by omega)
  have bw := (bsd_b (W := wZ) (G := gZ) (c := cZ) (by omega) (by omega) (by omega)).1
  refine V_bipush (-4) d_Mod_bestBeside_0 (by decide) ?_
  refine V_istore_n 3 [some (.ref 116), some (.int c), some (.int s), some (.int (-4)), none, none] d_Mod_bestBeside_2 rfl (by decide) rfl rfl ?_
  refine V_iconst 0 d_Mod_bestBeside_3 (by decide) ?_
  refine V_istore 4 [some (.ref 116), some (.int c), some (.int s), some (.int (-4)), some (.int 0), none] d_Mod_bestBeside_4 (by decide) rfl rfl ?_
  have L3 : ∀ (nn : Nat) (v5 : Int32) (v5Z : Int) (v6 : Int32) (v6Z : Int), v5.toInt = v5Z → v6.toInt = v6Z → 0 ≤ v6Z ∧ v6Z ≤ 4 → v5Z = mb (bbN (fun i => (h.1 122 (16 * sZ.toNat + i)).toInt) wZ gZ cZ (v6Z).toNat) → 4 - v6Z < (nn : Int) → V R_Mod b_Mod_bestBeside 6 (some .int) 2 43 (q_Mod_bestBesideX h c cZ s sZ w wZ g gZ) h 6 [some (.ref 116), some (.int c), some (.int s), some (.int v5), some (.int v6), none] [] := by
    intro nn
    induction nn with
    | zero => intro v5 v5Z v6 v6Z v5E v6E q7 q8 hm9; exact absurd hm9 (by omega)
    | succ nn ihL3 =>
      intro v5 v5Z v6 v6Z v5E v6E q7 q8 hm9
      refine V_iload d_Mod_bestBeside_6 rfl ?_
      refine V_iconst 4 d_Mod_bestBeside_8 (by decide) ?_
      refine V_icmp_ge 73 v6E tc_4 d_Mod_bestBeside_9 (by decide) (fun c10 => ?_) (fun c10 => ?_)
      ·
        refine V_iload_n 3 d_Mod_bestBeside_73 rfl rfl ?_
        exact V_iret rfl d_Mod_bestBeside_74 ⟨v5, rfl, ⟨rfl, (by have b4 := bbN_4 (f := (fun i => (h.1 122 (16 * sZ.toNat + i)).toInt)) (W := wZ) (G := gZ) (c := cZ) (by omega) (by omega) (by omega); have q9 : v5Z = mb (bbN (fun i => (h.1 122 (16 * sZ.toNat + i)).toInt) wZ gZ cZ 4) := (by rw [show (4 : Nat) = (v6Z).toNat by omega]; assumption); rw [v5E, q9]; unfold mb; rw [if_neg (by omega)])⟩⟩
      ·
        have bq := bbN_b (f := (fun i => (h.1 122 (16 * sZ.toNat + i)).toInt)) (W := wZ) (G := gZ) (c := cZ) (by omega) (by omega) (by omega) (v6Z).toNat (by omega)
        have mq := mb_s (bbN (fun i => (h.1 122 (16 * sZ.toNat + i)).toInt) wZ gZ cZ (v6Z).toNat)
        refine V_aload_n 0 d_Mod_bestBeside_12 rfl rfl ?_
        refine V_iload_n 1 d_Mod_bestBeside_13 rfl rfl ?_
        refine V_iload d_Mod_bestBeside_14 rfl ?_
        refine N_callVI [.int c, .int v6] [] cv_Mod_243 sk_116 rfl d_Mod_bestBeside_16 rfl (Nat.le_of_ble_eq_true rfl) (by decide) (by decide) (c_Mod_besideX h hI c cZ cE v6 v6Z v6E w wZ wE wK g gZ gE gK (by omega) (by omega)) (fun z11 h12 z11Z z11E p13 => ?_)
        obtain ⟨eh12, p13⟩ := p13
        subst eh12
        have hk9 : z11Z = mb (bsd wZ gZ cZ (v6Z).toNat) := z11E.symm.trans p13
        have bk := bw (v6Z).toNat (by omega)
        have mk := mb_s (bsd wZ gZ cZ (v6Z).toNat)
        refine V_istore 5 [some (.ref 116), some (.int c), some (.int s), some (.int v5), some (.int v6), some (.int z11)] d_Mod_bestBeside_19 (by decide) rfl rfl ?_
        refine V_iload d_Mod_bestBeside_21 rfl ?_
        refine V_bipush (-4) d_Mod_bestBeside_23 (by decide) ?_
        refine V_icmp_eq 65 z11E tc_m4 d_Mod_bestBeside_25 (by decide) (fun c14 => ?_) (fun c14 => ?_)
        ·
          refine V_iload_n 3 d_Mod_bestBeside_65 rfl rfl ?_
          have hb9 : v5Z = mb (bbN (fun i => (h.1 122 (16 * sZ.toNat + i)).toInt) wZ gZ cZ (v6Z + 1).toNat) := by rw [← bb_n (f := (fun i => (h.1 122 (16 * sZ.toNat + i)).toInt)) (n := v6Z) (K := bsd wZ gZ cZ (v6Z).toNat) (L := bbN (fun i => (h.1 122 (16 * sZ.toNat + i)).toInt) wZ gZ cZ (v6Z).toNat) (Y := 0) (Z := 0) (by omega) rfl rfl (Or.inl (by omega))]; omega
          refine V_istore_n 3 [some (.ref 116), some (.int c), some (.int s), some (.int v5), some (.int v6), some (.int z11)] d_Mod_bestBeside_66 rfl (by decide) rfl rfl ?_
          obtain ⟨z15, z15E, z15e⟩ : ∃ y : Int32, y.toInt = v6Z + 1 ∧ y = v6 + Int32.ofInt 1 := ⟨_, ti_add v6E (by decide) (by omega), rfl⟩
          refine V_iinc 4 [some (.ref 116), some (.int c), some (.int s), some (.int v5), some (.int z15), some (.int z11)] d_Mod_bestBeside_67 rfl z15e.symm (by decide) rfl rfl ?_
          refine V_goto 6 d_Mod_bestBeside_70 (by decide) ?_
          refine V_drop 5 [some (.ref 116), some (.int c), some (.int s), some (.int v5), some (.int z15), none] rfl ?_
          exact ihL3 v5 v5Z z15 ((v6Z + 1)) v5E z15E (by omega) hb9 (by omega)
        ·
          refine V_iload_n 3 d_Mod_bestBeside_28 rfl rfl ?_
          refine V_bipush (-4) d_Mod_bestBeside_29 (by decide) ?_
          refine V_icmp_eq 60 v5E tc_m4 d_Mod_bestBeside_31 (by decide) (fun c16 => ?_) (fun c16 => ?_)
          ·
            refine V_iload d_Mod_bestBeside_60 rfl ?_
            refine V_goto 66 d_Mod_bestBeside_62 (by decide) ?_
            have hb9 : z11Z = mb (bbN (fun i => (h.1 122 (16 * sZ.toNat + i)).toInt) wZ gZ cZ (v6Z + 1).toNat) := by rw [← bb_y (f := (fun i => (h.1 122 (16 * sZ.toNat + i)).toInt)) (n := v6Z) (K := bsd wZ gZ cZ (v6Z).toNat) (L := bbN (fun i => (h.1 122 (16 * sZ.toNat + i)).toInt) wZ gZ cZ (v6Z).toNat) (Y := 0) (Z := 0) (by omega) rfl rfl (by omega) (Or.inl (by omega))]; omega
            refine V_istore_n 3 [some (.ref 116), some (.int c), some (.int s), some (.int z11), some (.int v6), some (.int z11)] d_Mod_bestBeside_66 rfl (by decide) rfl rfl ?_
            obtain ⟨z17, z17E, z17e⟩ : ∃ y : Int32, y.toInt = v6Z + 1 ∧ y = v6 + Int32.ofInt 1 := ⟨_, ti_add v6E (by decide) (by omega), rfl⟩
            refine V_iinc 4 [some (.ref 116), some (.int c), some (.int s), some (.int z11), some (.int z17), some (.int z11)] d_Mod_bestBeside_67 rfl z17e.symm (by decide) rfl rfl ?_
            refine V_goto 6 d_Mod_bestBeside_70 (by decide) ?_
            refine V_drop 5 [some (.ref 116), some (.int c), some (.int s), some (.int z11), some (.int z17), none] rfl ?_
            exact ihL3 z11 z11Z z17 ((v6Z + 1)) z11E z17E (by omega) hb9 (by omega)
          ·
            refine V_aload_n 0 d_Mod_bestBeside_34 rfl rfl ?_
            refine V_getR fa_Mod_26 sk_116 rfl d_Mod_bestBeside_35 ?_
            refine V_bipush 16 d_Mod_bestBeside_38 (by decide) ?_
            refine V_iload_n 2 d_Mod_bestBeside_40 rfl rfl ?_
            refine V_imul tc_16 sE (by omega) d_Mod_bestBeside_41 (fun z18 z18e z18E => ?_)
            refine V_iload d_Mod_bestBeside_42 rfl ?_
            refine V_iadd z18E z11E (by omega) d_Mod_bestBeside_44 (fun z19 z19e z19E => ?_)
            refine N_iald sk_122 z19E (by omega) d_Mod_bestBeside_45 (fun z20 z20Z z20E z20e => ?_)
            refine V_aload_n 0 d_Mod_bestBeside_46 rfl rfl ?_
            refine V_getR fa_Mod_26 sk_116 rfl d_Mod_bestBeside_47 ?_
            refine V_bipush 16 d_Mod_bestBeside_50 (by decide) ?_
            refine V_iload_n 2 d_Mod_bestBeside_52 rfl rfl ?_
            refine V_imul tc_16 sE (by omega) d_Mod_bestBeside_53 (fun z21 z21e z21E => ?_)
            refine V_iload_n 3 d_Mod_bestBeside_54 rfl rfl ?_
            refine V_iadd z21E v5E (by omega) d_Mod_bestBeside_55 (fun z22 z22e z22E => ?_)
            refine N_iald sk_122 z22E (by omega) d_Mod_bestBeside_56 (fun z23 z23Z z23E z23e => ?_)
            refine V_icmp_le 65 z20E z23E d_Mod_bestBeside_57 (by decide) (fun c24 => ?_) (fun c24 => ?_)
            ·
              refine V_iload_n 3 d_Mod_bestBeside_65 rfl rfl ?_
              have ey : z23Z = (h.1 122 (16 * sZ.toNat + (bbN (fun i => (h.1 122 (16 * sZ.toNat + i)).toInt) wZ gZ cZ (v6Z).toNat).toNat)).toInt := by rw [← z23E, z23e, show (16 * sZ + v5Z).toNat = 16 * sZ.toNat + (bbN (fun i => (h.1 122 (16 * sZ.toNat + i)).toInt) wZ gZ cZ (v6Z).toNat).toNat by omega]
              have ez : z20Z = (h.1 122 (16 * sZ.toNat + (bsd wZ gZ cZ (v6Z).toNat).toNat)).toInt := by rw [← z20E, z20e, show (16 * sZ + z11Z).toNat = 16 * sZ.toNat + (bsd wZ gZ cZ (v6Z).toNat).toNat by omega]
              have hb9 : v5Z = mb (bbN (fun i => (h.1 122 (16 * sZ.toNat + i)).toInt) wZ gZ cZ (v6Z + 1).toNat) := by rw [← bb_n (f := (fun i => (h.1 122 (16 * sZ.toNat + i)).toInt)) (n := v6Z) (K := bsd wZ gZ cZ (v6Z).toNat) (L := bbN (fun i => (h.1 122 (16 * sZ.toNat + i)).toInt) wZ gZ cZ (v6Z).toNat) (Y := z23Z) (Z := z20Z) (by omega) rfl rfl (Or.inr ⟨by omega, ey, ez, by omega⟩)]; omega
              refine V_istore_n 3 [some (.ref 116), some (.int c), some (.int s), some (.int v5), some (.int v6), some (.int z11)] d_Mod_bestBeside_66 rfl (by decide) rfl rfl ?_
              obtain ⟨z25, z25E, z25e⟩ : ∃ y : Int32, y.toInt = v6Z + 1 ∧ y = v6 + Int32.ofInt 1 := ⟨_, ti_add v6E (by decide) (by omega), rfl⟩
              refine V_iinc 4 [some (.ref 116), some (.int c), some (.int s), some (.int v5), some (.int z25), some (.int z11)] d_Mod_bestBeside_67 rfl z25e.symm (by decide) rfl rfl ?_
              refine V_goto 6 d_Mod_bestBeside_70 (by decide) ?_
              refine V_drop 5 [some (.ref 116), some (.int c), some (.int s), some (.int v5), some (.int z25), none] rfl ?_
              exact ihL3 v5 v5Z z25 ((v6Z + 1)) v5E z25E (by omega) hb9 (by omega)
            ·
              refine V_iload d_Mod_bestBeside_60 rfl ?_
              refine V_goto 66 d_Mod_bestBeside_62 (by decide) ?_
              have ey : z23Z = (h.1 122 (16 * sZ.toNat + (bbN (fun i => (h.1 122 (16 * sZ.toNat + i)).toInt) wZ gZ cZ (v6Z).toNat).toNat)).toInt := by rw [← z23E, z23e, show (16 * sZ + v5Z).toNat = 16 * sZ.toNat + (bbN (fun i => (h.1 122 (16 * sZ.toNat + i)).toInt) wZ gZ cZ (v6Z).toNat).toNat by omega]
              have ez : z20Z = (h.1 122 (16 * sZ.toNat + (bsd wZ gZ cZ (v6Z).toNat).toNat)).toInt := by rw [← z20E, z20e, show (16 * sZ + z11Z).toNat = 16 * sZ.toNat + (bsd wZ gZ cZ (v6Z).toNat).toNat by omega]
              have hb9 : z11Z = mb (bbN (fun i => (h.1 122 (16 * sZ.toNat + i)).toInt) wZ gZ cZ (v6Z + 1).toNat) := by rw [← bb_y (f := (fun i => (h.1 122 (16 * sZ.toNat + i)).toInt)) (n := v6Z) (K := bsd wZ gZ cZ (v6Z).toNat) (L := bbN (fun i => (h.1 122 (16 * sZ.toNat + i)).toInt) wZ gZ cZ (v6Z).toNat) (Y := z23Z) (Z := z20Z) (by omega) rfl rfl (by omega) (Or.inr ⟨ey, ez, by omega⟩)]; omega
              refine V_istore_n 3 [some (.ref 116), some (.int c), some (.int s), some (.int z11), some (.int v6), some (.int z11)] d_Mod_bestBeside_66 rfl (by decide) rfl rfl ?_
              obtain ⟨z26, z26E, z26e⟩ : ∃ y : Int32, y.toInt = v6Z + 1 ∧ y = v6 + Int32.ofInt 1 := ⟨_, ti_add v6E (by decide) (by omega), rfl⟩
              refine V_iinc 4 [some (.ref 116), some (.int c), some (.int s), some (.int z11), some (.int z26), some (.int z11)] d_Mod_bestBeside_67 rfl z26e.symm (by decide) rfl rfl ?_
              refine V_goto 6 d_Mod_bestBeside_70 (by decide) ?_
              refine V_drop 5 [some (.ref 116), some (.int c), some (.int s), some (.int z11), some (.int z26), none] rfl ?_
              exact ihL3 z11 z11Z z26 ((v6Z + 1)) z11E z26E (by omega) hb9 (by omega)
  exact L3 (Int.toNat ((4 - 0 : Int) + 1)) (-4) ((-4)) 0 0 tc_m4 tc_0 (by omega) rfl (by omega)
abbrev q_Walks_shownInX (h : Hp) (c : Int32) (cZ : Int) (o : Int32) (oZ : Int) (s : Int32) (sZ : Int) (n : Int32) (nZ : Int) (m : Int32) (mZ : Int) : Option Value → Hp → Prop := pInt (fun r h' => h = h' ∧ (r.toInt = svC h nZ mZ oZ cZ.toNat sZ))
set_option maxRecDepth 100000 in
theorem c_Walks_shownInX (h : Hp) (hI : Inv h) (c : Int32) (cZ : Int) (cE : c.toInt = cZ) (o : Int32) (oZ : Int) (oE : o.toInt = oZ) (s : Int32) (sZ : Int) (sE : s.toInt = sZ) (n : Int32) (nZ : Int) (nE : n.toInt = nZ) (nK : h.1 0 3 = n) (m : Int32) (mZ : Int) (mE : m.toInt = mZ) (mK : h.1 0 4 = m) (hy0 : 0 ≤ cZ ∧ cZ ≤ 15) (hy1 : 0 ≤ sZ) (hy2 : ∀ i : Nat, i < 16 → 0 ≤ (h.1 3 i).toInt ∧ (h.1 3 i).toInt ≤ 1) : Ct y_Walks_shownIn b_Walks_shownIn 5 (some .int) 2 50 [.ref 0, .int c, .int o, .int s] h (q_Walks_shownInX h c cZ o oZ s sZ n nZ m mZ) := by
  refine ct_ow R_Walks [some (.ref 0), some (.int c), some (.int o), some (.int s), none] rfl (by decide) rfl (Nat.le_of_ble_eq_true rfl) ?_
  have f0 : fr [] h h := fr_rf
  obtain ⟨uv, uvZ, uvE, uvK⟩ : ∃ (y : Int32) (Y : Int), y.toInt = Y ∧ h.1 2 (cZ).toNat = y := ⟨_, _, rfl, rfl⟩
  refine V_aload_n 0 d_Walks_shownIn_0 rfl rfl ?_
  refine V_iload_n 1 d_Walks_shownIn_1 rfl rfl ?_
  refine V_iload_n 2 d_Walks_shownIn_2 rfl rfl ?_
  refine V_iload_n 3 d_Walks_shownIn_3 rfl rfl ?_
  refine N_callVI [.int c, .int o, .int s] [] cv_Walks_40 sk_0 rfl d_Walks_shownIn_4 rfl (Nat.le_of_ble_eq_true rfl) (by decide) (by decide) (c_County_twitchesX_0 h hI c cZ cE o oZ oE s sZ sE n nZ nE nK m mZ mE mK (by omega) (by omega) hy2) (fun z1 h2 z1Z z1E p3 => ?_)
  obtain ⟨eh2, p3⟩ := p3
  subst eh2
  have := twR_01 p3
  refine V_if_eq 14 z1E d_Walks_shownIn_7 (by decide) (fun c4 => ?_) (fun c4 => ?_)
  ·
    refine V_iconst 0 d_Walks_shownIn_14 (by decide) ?_
    refine V_istore 4 [some (.ref 0), some (.int c), some (.int o), some (.int s), some (.int 0)] d_Walks_shownIn_15 (by decide) rfl rfl ?_
    refine V_aload_n 0 d_Walks_shownIn_17 rfl rfl ?_
    refine V_getR fa_Walks_20 sk_0 rfl d_Walks_shownIn_18 ?_
    refine V_getR fa_Walks_44 sk_1 rfl d_Walks_shownIn_21 ?_
    refine V_iload_n 1 d_Walks_shownIn_24 rfl rfl ?_
    refine N_ialdK sk_2 cE (by omega) d_Walks_shownIn_25 uvK ?_
    refine V_if_le 36 uvE d_Walks_shownIn_26 (by decide) (fun c6 => ?_) (fun c6 => ?_)
    ·
      refine V_iload d_Walks_shownIn_36 rfl ?_
      exact V_iret rfl d_Walks_shownIn_38 ⟨0, rfl, ⟨rfl, (by unfold svC; rw [uvK, uvE]; exact svv_of p3 z1E (by (try rw [show Int32.toInt 0 = 0 from rfl]); omega))⟩⟩
    ·
      refine V_iload d_Walks_shownIn_29 rfl ?_
      refine V_iconst 1 d_Walks_shownIn_31 (by decide) ?_
      refine V_isubw d_Walks_shownIn_32 (fun z7 z7e => ?_)
      obtain rfl : z7 = (-1) := z7e.trans (by decide)
      refine V_goto 38 d_Walks_shownIn_33 (by decide) ?_
      exact V_iret rfl d_Walks_shownIn_38 ⟨(-1), rfl, ⟨rfl, (by unfold svC; rw [uvK, uvE]; exact svv_of p3 z1E (by (try rw [show Int32.toInt (-1) = (-1) from rfl]); omega))⟩⟩
  ·
    refine V_iconst 2 d_Walks_shownIn_10 (by decide) ?_
    refine V_goto 15 d_Walks_shownIn_11 (by decide) ?_
    refine V_istore 4 [some (.ref 0), some (.int c), some (.int o), some (.int s), some (.int 2)] d_Walks_shownIn_15 (by decide) rfl rfl ?_
    refine V_aload_n 0 d_Walks_shownIn_17 rfl rfl ?_
    refine V_getR fa_Walks_20 sk_0 rfl d_Walks_shownIn_18 ?_
    refine V_getR fa_Walks_44 sk_1 rfl d_Walks_shownIn_21 ?_
    refine V_iload_n 1 d_Walks_shownIn_24 rfl rfl ?_
    refine N_ialdK sk_2 cE (by omega) d_Walks_shownIn_25 uvK ?_
    refine V_if_le 36 uvE d_Walks_shownIn_26 (by decide) (fun c9 => ?_) (fun c9 => ?_)
    ·
      refine V_iload d_Walks_shownIn_36 rfl ?_
      exact V_iret rfl d_Walks_shownIn_38 ⟨2, rfl, ⟨rfl, (by unfold svC; rw [uvK, uvE]; exact svv_of p3 z1E (by (try rw [show Int32.toInt 2 = 2 from rfl]); omega))⟩⟩
    ·
      refine V_iload d_Walks_shownIn_29 rfl ?_
      refine V_iconst 1 d_Walks_shownIn_31 (by decide) ?_
      refine V_isubw d_Walks_shownIn_32 (fun z10 z10e => ?_)
      obtain rfl : z10 = 1 := z10e.trans (by decide)
      refine V_goto 38 d_Walks_shownIn_33 (by decide) ?_
      exact V_iret rfl d_Walks_shownIn_38 ⟨1, rfl, ⟨rfl, (by unfold svC; rw [uvK, uvE]; exact svv_of p3 z1E (by (try rw [show Int32.toInt 1 = 1 from rfl]); omega))⟩⟩
abbrev q_Mod_showsInX (h : Hp) (c : Int32) (cZ : Int) (o : Int32) (oZ : Int) (s : Int32) (sZ : Int) (n : Int32) (nZ : Int) (m : Int32) (mZ : Int) : Option Value → Hp → Prop := pInt (fun r h' => h = h' ∧ (r.toInt = svM h nZ mZ oZ cZ.toNat sZ))
set_option maxRecDepth 100000 in
theorem c_Mod_showsInX (h : Hp) (hI : Inv h) (c : Int32) (cZ : Int) (cE : c.toInt = cZ) (o : Int32) (oZ : Int) (oE : o.toInt = oZ) (s : Int32) (sZ : Int) (sE : s.toInt = sZ) (n : Int32) (nZ : Int) (nE : n.toInt = nZ) (nK : h.1 117 84 = n) (m : Int32) (mZ : Int) (mE : m.toInt = mZ) (mK : h.1 117 85 = m) (hy0 : 0 ≤ cZ ∧ cZ ≤ 15) (hy1 : 0 ≤ sZ) : Ct y_Mod_showsIn b_Mod_showsIn 4 (some .int) 1 27 [.ref 116, .int c, .int o, .int s] h (q_Mod_showsInX h c cZ o oZ s sZ n nZ m mZ) := by
  refine ct_ow R_Mod [some (.ref 116), some (.int c), some (.int o), some (.int s)] rfl (by decide) rfl (Nat.le_of_ble_eq_true rfl) ?_
  have f0 : fr [] h h := fr_rf
  obtain ⟨uv, uvZ, uvE, uvK⟩ : ∃ (y : Int32) (Y : Int), y.toInt = Y ∧ h.1 117 ((0 + cZ)).toNat = y := ⟨_, _, rfl, rfl⟩
  refine V_iconst 2 d_Mod_showsIn_0 (by decide) ?_
  refine V_aload_n 0 d_Mod_showsIn_1 rfl rfl ?_
  refine V_aload_n 0 d_Mod_showsIn_2 rfl rfl ?_
  refine V_getR fa_Mod_7 sk_116 rfl d_Mod_showsIn_3 ?_
  refine V_bipush 84 d_Mod_showsIn_6 (by decide) ?_
  refine N_ialdK sk_117 tc_84 (by omega) d_Mod_showsIn_8 nK ?_
  refine V_aload_n 0 d_Mod_showsIn_9 rfl rfl ?_
  refine V_getR fa_Mod_7 sk_116 rfl d_Mod_showsIn_10 ?_
  refine V_bipush 85 d_Mod_showsIn_13 (by decide) ?_
  refine N_ialdK sk_117 tc_85 (by omega) d_Mod_showsIn_15 mK ?_
  refine V_iload_n 1 d_Mod_showsIn_16 rfl rfl ?_
  refine V_iload_n 2 d_Mod_showsIn_17 rfl rfl ?_
  refine V_iload_n 3 d_Mod_showsIn_18 rfl rfl ?_
  refine N_callVI [.int n, .int m, .int c, .int o, .int s] [.int 2] cv_Mod_229 sk_116 rfl d_Mod_showsIn_19 rfl (Nat.le_of_ble_eq_true rfl) (by decide) (by decide) (c_Mod_doesTwitchX h hI n nZ nE m mZ mE c cZ cE o oZ oE s sZ sE (by omega) (by omega)) (fun z3 h4 z3Z z3E p5 => ?_)
  obtain ⟨eh4, p5⟩ := p5
  subst eh4
  have := twR_01 p5
  refine N_callSI [.int z3] [.int 2] cs_Mod_196 d_Mod_showsIn_22 rfl (Nat.le_of_ble_eq_true rfl) (by decide) (by decide) (c_Mod_flag h z3 z3Z z3E) (fun z6 h7 z6Z z6E p8 => ?_)
  obtain ⟨eh7, p8⟩ := p8
  subst eh7
  refine V_imul tc_2 z6E (by omega) d_Mod_showsIn_25 (fun z9 z9e z9E => ?_)
  refine V_aload_n 0 d_Mod_showsIn_26 rfl rfl ?_
  refine V_getR fa_Mod_7 sk_116 rfl d_Mod_showsIn_27 ?_
  refine V_iconst 0 d_Mod_showsIn_30 (by decide) ?_
  refine V_iload_n 1 d_Mod_showsIn_31 rfl rfl ?_
  refine V_iadd tc_0 cE (by omega) d_Mod_showsIn_32 (fun z10 z10e z10E => ?_)
  refine N_ialdK sk_117 z10E (by omega) d_Mod_showsIn_33 uvK ?_
  refine V_if_le 41 uvE d_Mod_showsIn_34 (by decide) (fun c12 => ?_) (fun c12 => ?_)
  ·
    refine V_iconst 0 d_Mod_showsIn_41 (by decide) ?_
    refine N_callSI [.int 0] [.int z9] cs_Mod_196 d_Mod_showsIn_42 rfl (Nat.le_of_ble_eq_true rfl) (by decide) (by decide) (c_Mod_flag h 0 0 tc_0) (fun z13 h14 z13Z z13E p15 => ?_)
    obtain ⟨eh14, p15⟩ := p15
    subst eh14
    refine V_isub z9E z13E (by omega) d_Mod_showsIn_45 (fun z16 z16e z16E => ?_)
    exact V_iret rfl d_Mod_showsIn_46 ⟨z16, rfl, ⟨rfl, (by unfold svM; rw [show cZ.toNat = (0 + cZ).toNat by omega, uvK, uvE, show (0 + cZ).toNat = cZ.toNat by omega]; exact svv_of (twR_fl p5 z3E p8) z6E (by rw [z16E]; omega))⟩⟩
  ·
    refine V_iconst 1 d_Mod_showsIn_37 (by decide) ?_
    refine V_goto 42 d_Mod_showsIn_38 (by decide) ?_
    refine N_callSI [.int 1] [.int z9] cs_Mod_196 d_Mod_showsIn_42 rfl (Nat.le_of_ble_eq_true rfl) (by decide) (by decide) (c_Mod_flag h 1 1 tc_1) (fun z17 h18 z17Z z17E p19 => ?_)
    obtain ⟨eh18, p19⟩ := p19
    subst eh18
    refine V_isub z9E z17E (by omega) d_Mod_showsIn_45 (fun z20 z20e z20E => ?_)
    exact V_iret rfl d_Mod_showsIn_46 ⟨z20, rfl, ⟨rfl, (by unfold svM; rw [show cZ.toNat = (0 + cZ).toNat by omega, uvK, uvE, show (0 + cZ).toNat = cZ.toNat by omega]; exact svv_of (twR_fl p5 z3E p8) z6E (by rw [z20E]; omega))⟩⟩
def S_Walks_findX : List (Nat × Option Nat) := [(95, none), (96, none), (97, none), (98, none), (99, none), (100, none), (101, none)]
abbrev q_Walks_findX (h : Hp) (c : Int32) (cZ : Int) (o : Int32) (oZ : Int) (n : Int32) (nZ : Int) (w : Int32) (wZ : Int) (g : Int32) (gZ : Int) (p : Int32) (pZ : Int) (m : Int32) (mZ : Int) : Option Value → Hp → Prop := pVd (fun h' => Inv h' ∧ fr S_Walks_findX h h' ∧ ((∀ i : Int, 0 ≤ i → i < nZ → VR (vv9 (svC h pZ mZ oZ) wZ gZ nZ) (wZ * gZ) h' (95 + i.toNat) 0 (nZ - 1 - i).toNat 16) ∧ PT (pth (vv9 (svC h pZ mZ oZ) wZ gZ nZ) wZ gZ nZ cZ) h' nZ))
set_option maxRecDepth 100000 in
theorem c_Walks_findX (h : Hp) (hI : Inv h) (c : Int32) (cZ : Int) (cE : c.toInt = cZ) (o : Int32) (oZ : Int) (oE : o.toInt = oZ) (n : Int32) (nZ : Int) (nE : n.toInt = nZ) (w : Int32) (wZ : Int) (wE : w.toInt = wZ) (wK : h.1 1 0 = w) (g : Int32) (gZ : Int) (gE : g.toInt = gZ) (gK : h.1 1 1 = g) (p : Int32) (pZ : Int) (pE : p.toInt = pZ) (pK : h.1 0 3 = p) (m : Int32) (mZ : Int) (mE : m.toInt = mZ) (mK : h.1 0 4 = m) (hy0 : 0 ≤ cZ ∧ cZ < wZ * gZ) (hy1 : 1 ≤ nZ ∧ nZ ≤ 6) (hy2 : ∀ i : Nat, i < 16 → 0 ≤ (h.1 3 i).toInt ∧ (h.1 3 i).toInt ≤ 1) : Ct y_Walks_find b_Walks_find 8 none 4 90 [.ref 93, .ref 0, .int c, .int o, .int n] h (q_Walks_findX h c cZ o oZ n nZ w wZ g gZ p pZ m mZ) := by
  refine ct_ow R_Walks [some (.ref 93), some (.ref 0), some (.int c), some (.int o), some (.int n), none, none, none] rfl (by decide) rfl (Nat.le_of_ble_eq_true rfl) ?_
  have f0 : fr S_Walks_findX h h := fr_rf
  have g1 : 2 ≤ wZ ∧ wZ ≤ 4 := inv_at hI wE wK.symm rfl
  have g2 : 2 ≤ gZ ∧ gZ ≤ 4 := inv_at hI gE gK.symm rfl
  have m24 := mul24 (A := wZ) (B := gZ) (by omega) (by omega)
  refine V_iload d_Walks_find_0 rfl ?_
  refine V_iconst 1 d_Walks_find_2 (by decide) ?_
  refine V_isub nE tc_1 (by omega) d_Walks_find_3 (fun z3 z3e z3E => ?_)
  refine V_istore 5 [some (.ref 93), some (.ref 0), some (.int c), some (.int o), some (.int n), some (.int z3), none, none] d_Walks_find_4 (by decide) rfl rfl ?_
  have L4 : ∀ (nn : Nat) (v6 : Int32) (v6Z : Int) (h7 : Hp), v6.toInt = v6Z → Inv h7 → fr S_Walks_findX h h7 → h7.1 1 0 = w → h7.1 1 1 = g → h7.1 0 3 = p → h7.1 0 4 = m → -1 ≤ v6Z ∧ v6Z ≤ nZ - 1 → (∀ i : Int, v6Z < i → i < nZ → VR (vv9 (svC h pZ mZ oZ) wZ gZ nZ) (wZ * gZ) h7 (95 + i.toNat) 0 (nZ - 1 - i).toNat 16) → v6Z + 1 < (nn : Int) → V R_Walks b_Walks_find 8 none 4 90 (q_Walks_findX h c cZ o oZ n nZ w wZ g gZ p pZ m mZ) h7 6 [some (.ref 93), some (.ref 0), some (.int c), some (.int o), some (.int n), some (.int v6), none, none] [] := by
    intro nn
    induction nn with
    | zero => intro v6 v6Z h7 v6E Ih7 Fh7 K8 K9 K10 K11 q12 q13 hm14; exact absurd hm14 (by omega)
    | succ nn ihL4 =>
      intro v6 v6Z h7 v6E Ih7 Fh7 K8 K9 K10 K11 q12 q13 hm14
      refine V_iload d_Walks_find_6 rfl ?_
      refine V_if_lt 110 v6E d_Walks_find_8 (by decide) (fun c15 => ?_) (fun c15 => ?_)
      ·
        have hr8 : (∀ i : Int, v6Z < i → i < nZ → VR (vv9 (svC h pZ mZ oZ) wZ gZ nZ) (wZ * gZ) h7 (95 + i.toNat) 0 (nZ - 1 - i).toNat 16) := by assumption
        refine V_aload_n 0 d_Walks_find_110 rfl rfl ?_
        refine V_getR fa_Walks_16 sk_93 rfl d_Walks_find_111 ?_
        refine V_iconst 0 d_Walks_find_114 (by decide) ?_
        refine V_iload_n 2 d_Walks_find_115 rfl rfl ?_
        refine N_iast sk_101 tc_0 (by omega) d_Walks_find_116 (fun h16 eh16 => ?_)
        have hI17 : Inv h16 := inv_full Ih7 eh16 rfl
        have f18 : fr S_Walks_findX h h16 := fr_put Fh7 eh16 rfl
        refine V_iconst 1 d_Walks_find_117 (by decide) ?_
        refine V_istore 5 [some (.ref 93), some (.ref 0), some (.int c), some (.int o), some (.int n), some (.int 1), none, none] d_Walks_find_118 (by decide) rfl rfl ?_
        have L19 : ∀ (nn : Nat) (v21 : Int32) (v21Z : Int) (h22 : Hp), v21.toInt = v21Z → Inv h22 → fr S_Walks_findX h h22 → h22.1 1 0 = w → h22.1 1 1 = g → 1 ≤ v21Z ∧ v21Z ≤ nZ → (∀ i : Int, 0 ≤ i → i < nZ → VR (vv9 (svC h pZ mZ oZ) wZ gZ nZ) (wZ * gZ) h22 (95 + i.toNat) 0 (nZ - 1 - i).toNat 16) → PT (pth (vv9 (svC h pZ mZ oZ) wZ gZ nZ) wZ gZ nZ cZ) h22 v21Z → nZ - v21Z < (nn : Int) → V R_Walks b_Walks_find 8 none 4 90 (q_Walks_findX h c cZ o oZ n nZ w wZ g gZ p pZ m mZ) h22 120 [some (.ref 93), some (.ref 0), some (.int c), some (.int o), some (.int n), some (.int v21), none, none] [] := by
          intro nn
          induction nn with
          | zero => intro v21 v21Z h22 v21E Ih22 Fh22 K23 K24 q25 q26 q27 hm28; exact absurd hm28 (by omega)
          | succ nn ihL19 =>
            intro v21 v21Z h22 v21E Ih22 Fh22 K23 K24 q25 q26 q27 hm28
            refine V_iload d_Walks_find_120 rfl ?_
            refine V_iload d_Walks_find_122 rfl ?_
            refine V_icmp_ge 159 v21E nE d_Walks_find_124 (by decide) (fun c29 => ?_) (fun c29 => ?_)
            ·
              exact V_vret rfl d_Walks_find_159 ⟨rfl, ⟨Ih22, Fh22, ⟨by assumption, fun i hi => (show PT (pth (vv9 (svC h pZ mZ oZ) wZ gZ nZ) wZ gZ nZ cZ) h22 v21Z from by assumption) i (by omega)⟩⟩⟩
            ·
              have hr7 : (∀ i : Int, 0 ≤ i → i < nZ → VR (vv9 (svC h pZ mZ oZ) wZ gZ nZ) (wZ * gZ) h22 (95 + i.toNat) 0 (nZ - 1 - i).toNat 16) := by assumption
              have hp7 : PT (pth (vv9 (svC h pZ mZ oZ) wZ gZ nZ) wZ gZ nZ cZ) h22 v21Z := by assumption
              have hpb := pth_b (v := (vv9 (svC h pZ mZ oZ) wZ gZ nZ)) (W := wZ) (G := gZ) (n := nZ) (c := cZ) (by omega) (by omega) (by omega) (v21Z - 1).toNat
              refine V_aload_n 0 d_Walks_find_127 rfl rfl ?_
              refine V_getR fa_Walks_16 sk_93 rfl d_Walks_find_128 ?_
              refine V_iload d_Walks_find_131 rfl ?_
              refine V_aload_n 0 d_Walks_find_133 rfl rfl ?_
              refine V_aload_n 1 d_Walks_find_134 rfl rfl ?_
              refine V_getR fa_Walks_20 sk_0 rfl d_Walks_find_135 ?_
              refine V_aload_n 0 d_Walks_find_138 rfl rfl ?_
              refine V_getR fa_Walks_16 sk_93 rfl d_Walks_find_139 ?_
              refine V_iload d_Walks_find_142 rfl ?_
              refine V_iconst 1 d_Walks_find_144 (by decide) ?_
              refine V_isub v21E tc_1 (by omega) d_Walks_find_145 (fun z30 z30e z30E => ?_)
              refine N_iald sk_101 z30E (by omega) d_Walks_find_146 (fun z31 z31Z z31E z31e => ?_)
              have hp6 : z31Z = (pth (vv9 (svC h pZ mZ oZ) wZ gZ nZ) wZ gZ nZ cZ) (v21Z - 1).toNat := by rw [← z31E, z31e]; exact hp7 _ (by omega)
              rw [← hp6] at hpb
              refine V_iload d_Walks_find_147 rfl ?_
              refine N_callVI [.ref 1, .int z31, .int v21] [.int v21, .ref 101] cv_Walks_32 sk_93 rfl d_Walks_find_149 rfl (Nat.le_of_ble_eq_true rfl) (by decide) (by decide) (c_Walks_bestBesideX h22 Ih22 z31 z31Z z31E v21 v21Z v21E w wZ wE K23 g gZ gE K24 (by omega) (by omega)) (fun z32 h33 z32Z z32E p34 => ?_)
              obtain ⟨eh33, p34⟩ := p34
              subst eh33
              have hx7 : z32Z = (pth (vv9 (svC h pZ mZ oZ) wZ gZ nZ) wZ gZ nZ cZ) (v21Z).toNat := by rw [pth_s (by omega), ← hp6, ← z32E, p34]; exact bbN_cg (by omega) (by omega) (by omega) (fun i hi => by have q9 := hr7 v21Z (by omega) (by omega) i (by omega) hi; rw [Nat.zero_add] at q9; exact q9) 4 (by omega)
              refine N_iast sk_101 v21E (by omega) d_Walks_find_152 (fun h35 eh35 => ?_)
              have hI36 : Inv h35 := inv_full Ih22 eh35 rfl
              have f37 : fr S_Walks_findX h h35 := fr_put Fh22 eh35 rfl
              obtain ⟨z38, z38E, z38e⟩ : ∃ y : Int32, y.toInt = v21Z + 1 ∧ y = v21 + Int32.ofInt 1 := ⟨_, ti_add v21E (by decide) (by omega), rfl⟩
              refine V_iinc 5 [some (.ref 93), some (.ref 0), some (.int c), some (.int o), some (.int n), some (.int z38), none, none] d_Walks_find_153 rfl z38e.symm (by decide) rfl rfl ?_
              refine V_goto 120 d_Walks_find_156 (by decide) ?_
              exact ihL19 z38 ((v21Z + 1)) h35 z38E hI36 f37 (kn_ne eh35 K23 (by decide)) (kn_ne eh35 K24 (by decide)) (by omega) (fun i a b => VR_ne (hr7 i a b) eh35 (Or.inl (by omega)) (by omega)) (PT_s hp7 (by omega) eh35 z32E hx7) (by omega)
        exact L19 (Int.toNat ((nZ - 1 : Int) + 1)) 1 1 h16 tc_1 hI17 f18 (kn_ne eh16 K8 (by decide)) (kn_ne eh16 K9 (by decide)) (by omega) (fun i a b => VR_ne (hr8 i (by omega) b) eh16 (Or.inl (by omega)) (by omega)) (fun i hi => by rw [eh16, pI_at, if_pos ⟨rfl, by omega⟩, show i = 0 by omega]; exact cE) (by omega)
      ·
        refine V_iconst 0 d_Walks_find_11 (by decide) ?_
        refine V_istore 6 [some (.ref 93), some (.ref 0), some (.int c), some (.int o), some (.int n), some (.int v6), some (.int 0), none] d_Walks_find_12 (by decide) rfl rfl ?_
        have L39 : ∀ (nn : Nat) (v41 : Int32) (v41Z : Int) (h42 : Hp), v41.toInt = v41Z → Inv h42 → fr S_Walks_findX h h42 → h42.1 1 0 = w → h42.1 1 1 = g → h42.1 0 3 = p → h42.1 0 4 = m → 0 ≤ v41Z ∧ v41Z ≤ wZ * gZ → (∀ i : Int, v6Z < i → i < nZ → VR (vv9 (svC h pZ mZ oZ) wZ gZ nZ) (wZ * gZ) h42 (95 + i.toNat) 0 (nZ - 1 - i).toNat 16) → VR (vv9 (svC h pZ mZ oZ) wZ gZ nZ) (wZ * gZ) h42 (95 + (v6Z).toNat) 0 (nZ - 1 - v6Z).toNat v41Z → 16 - v41Z < (nn : Int) → V R_Walks b_Walks_find 8 none 4 90 (q_Walks_findX h c cZ o oZ n nZ w wZ g gZ p pZ m mZ) h42 14 [some (.ref 93), some (.ref 0), some (.int c), some (.int o), some (.int n), some (.int v6), some (.int v41), none] [] := by
          intro nn
          induction nn with
          | zero => intro v41 v41Z h42 v41E Ih42 Fh42 K43 K44 K45 K46 q47 q48 q49 hm50; exact absurd hm50 (by omega)
          | succ nn ihL39 =>
            intro v41 v41Z h42 v41E Ih42 Fh42 K43 K44 K45 K46 q47 q48 q49 hm50
            refine V_iload d_Walks_find_14 rfl ?_
            refine V_aload_n 1 d_Walks_find_16 rfl rfl ?_
            refine V_getR fa_Walks_20 sk_0 rfl d_Walks_find_17 ?_
            refine N_callVI [] [.int v41] cv_Walks_26 sk_1 rfl d_Walks_find_20 rfl (Nat.le_of_ble_eq_true rfl) (by decide) (by decide) (c_Land_cells_0 h42 Ih42 w wZ wE K43 g gZ gE K44) (fun z51 h52 z51Z z51E p53 => ?_)
            obtain ⟨eh52, p53⟩ := p53
            subst eh52
            refine V_icmp_ge 104 v41E z51E d_Walks_find_23 (by decide) (fun c54 => ?_) (fun c54 => ?_)
            ·
              obtain ⟨z55, z55E, z55e⟩ : ∃ y : Int32, y.toInt = v6Z + (-1) ∧ y = v6 + Int32.ofInt (-1) := ⟨_, ti_add v6E (by decide) (by omega), rfl⟩
              refine V_iinc 5 [some (.ref 93), some (.ref 0), some (.int c), some (.int o), some (.int n), some (.int z55), some (.int v41), none] d_Walks_find_104 rfl z55e.symm (by decide) rfl rfl ?_
              refine V_goto 6 d_Walks_find_107 (by decide) ?_
              refine V_drop 6 [some (.ref 93), some (.ref 0), some (.int c), some (.int o), some (.int n), some (.int z55), none, none] rfl ?_
              exact ihL4 z55 ((v6Z + (-1))) h42 z55E Ih42 Fh42 K43 K44 K45 K46 (by omega) (fun i a b => by by_cases q : i = v6Z; exact (by rw [q]; exact fun c hc hw => (show VR (vv9 (svC h pZ mZ oZ) wZ gZ nZ) (wZ * gZ) h42 (95 + (v6Z).toNat) 0 (nZ - 1 - v6Z).toNat v41Z from by assumption) c (by omega) hw); exact (show (∀ i : Int, v6Z < i → i < nZ → VR (vv9 (svC h pZ mZ oZ) wZ gZ nZ) (wZ * gZ) h42 (95 + i.toNat) 0 (nZ - 1 - i).toNat 16) from by assumption) i (by omega) b) (by omega)
            ·
              have hr9 : (∀ i : Int, v6Z < i → i < nZ → VR (vv9 (svC h pZ mZ oZ) wZ gZ nZ) (wZ * gZ) h42 (95 + i.toNat) 0 (nZ - 1 - i).toNat 16) := by assumption
              have hb0 := vv9_b (sv := svC h pZ mZ oZ) (W := wZ) (G := gZ) (n := nZ) (fun c s => svv_b _ _)
              refine V_iload d_Walks_find_26 rfl ?_
              refine V_iload d_Walks_find_28 rfl ?_
              refine V_iconst 1 d_Walks_find_30 (by decide) ?_
              refine V_isub nE tc_1 (by omega) d_Walks_find_31 (fun z56 z56e z56E => ?_)
              refine V_icmp_ge 52 v6E z56E d_Walks_find_32 (by decide) (fun c57 => ?_) (fun c57 => ?_)
              ·
                refine V_iconst (-1) d_Walks_find_52 (by decide) ?_
                refine V_istore 7 [some (.ref 93), some (.ref 0), some (.int c), some (.int o), some (.int n), some (.int v6), some (.int v41), some (.int (-1))] d_Walks_find_53 (by decide) rfl rfl ?_
                refine V_aload_n 0 d_Walks_find_55 rfl rfl ?_
                refine V_getR fa_Walks_11 sk_93 rfl d_Walks_find_56 ?_
                refine V_iload d_Walks_find_59 rfl ?_
                refine V_aald (r := (95 + (v6Z).toNat)) sk_94 (by decide) v6E (by omega) (gridAt (by omega)) d_Walks_find_61 ?_
                refine V_iload d_Walks_find_62 rfl ?_
                refine V_aload_n 1 d_Walks_find_64 rfl rfl ?_
                refine V_iload d_Walks_find_65 rfl ?_
                refine V_iload_n 3 d_Walks_find_67 rfl rfl ?_
                refine V_iload d_Walks_find_68 rfl ?_
                refine V_iconst 1 d_Walks_find_70 (by decide) ?_
                refine V_iadd v6E tc_1 (by omega) d_Walks_find_71 (fun z58 z58e z58E => ?_)
                refine N_callSI [.ref 0, .int v41, .int o, .int z58] [.int v41, .ref (95 + (v6Z).toNat)] cs_Walks_36 d_Walks_find_72 rfl (Nat.le_of_ble_eq_true rfl) (by decide) (by decide) (c_Walks_shownInX h42 Ih42 v41 v41Z v41E o oZ oE z58 ((v6Z + 1)) z58E p pZ pE K45 m mZ mE K46 (by omega) (by omega) (fun i hi => by rw [Fh42.1 3 i rfl]; exact hy2 i hi)) (fun z59 h60 z59Z z59E p61 => ?_)
                obtain ⟨eh60, p61⟩ := p61
                subst eh60
                have hsv : z59Z = svC h pZ mZ oZ (v41Z).toNat (v6Z + 1) := z59E.symm.trans (p61.trans (svC_fr Fh42 rfl))
                have hsb := svv_b (twC h pZ mZ (v41Z).toNat oZ (v6Z + 1)) (h.1 2 (v41Z).toNat).toInt
                have hsb2 : -1 ≤ z59Z ∧ z59Z ≤ 2 := by rw [hsv]; exact hsb
                refine V_iload d_Walks_find_75 rfl ?_
                refine V_if_ge 84 tc_m1 d_Walks_find_77 (by decide) (fun c62 => ?_) (fun c62 => ?_)
                ·
                  exact absurd c62 (by decide)
                ·
                  refine V_iconst 0 d_Walks_find_80 (by decide) ?_
                  refine V_goto 96 d_Walks_find_81 (by decide) ?_
                  refine V_iadd z59E tc_0 (by omega) d_Walks_find_96 (fun z63 z63e z63E => ?_)
                  have hv9 : (z59Z + 0) = (vv9 (svC h pZ mZ oZ) wZ gZ nZ) (nZ - 1 - v6Z).toNat (v41Z).toNat := by rw [vv9_n (by omega), ← hsv]; omega
                  refine N_iast (gridSk (by omega)) v41E (by omega) d_Walks_find_97 (fun h64 eh64 => ?_)
                  have hI65 : Inv h64 := inv_full Ih42 eh64 (gridRg (by omega) _)
                  have f66 : fr S_Walks_findX h h64 := fr_put Fh42 eh64 (gridIn (by omega) rfl _)
                  obtain ⟨z67, z67E, z67e⟩ : ∃ y : Int32, y.toInt = v41Z + 1 ∧ y = v41 + Int32.ofInt 1 := ⟨_, ti_add v41E (by decide) (by omega), rfl⟩
                  refine V_iinc 6 [some (.ref 93), some (.ref 0), some (.int c), some (.int o), some (.int n), some (.int v6), some (.int z67), some (.int (-1))] d_Walks_find_98 rfl z67e.symm (by decide) rfl rfl ?_
                  refine V_goto 14 d_Walks_find_101 (by decide) ?_
                  refine V_drop 7 [some (.ref 93), some (.ref 0), some (.int c), some (.int o), some (.int n), some (.int v6), some (.int z67), none] rfl ?_
                  exact ihL39 z67 ((v41Z + 1)) h64 z67E hI65 f66 (kn_ne eh64 K43 (by omega)) (kn_ne eh64 K44 (by omega)) (kn_ne eh64 K45 (by omega)) (kn_ne eh64 K46 (by omega)) (by omega) (fun i a b => VR_ne (hr9 i a b) eh64 (Or.inl (by omega)) (by omega)) (VR_s (by assumption) (by omega) eh64 (by omega) z63E hv9) (by omega)
              ·
                refine V_aload_n 0 d_Walks_find_35 rfl rfl ?_
                refine V_aload_n 1 d_Walks_find_36 rfl rfl ?_
                refine V_getR fa_Walks_20 sk_0 rfl d_Walks_find_37 ?_
                refine V_iload d_Walks_find_40 rfl ?_
                refine V_iload d_Walks_find_42 rfl ?_
                refine V_iconst 1 d_Walks_find_44 (by decide) ?_
                refine V_iadd v6E tc_1 (by omega) d_Walks_find_45 (fun z68 z68e z68E => ?_)
                refine N_callVI [.ref 1, .int v41, .int z68] [] cv_Walks_32 sk_93 rfl d_Walks_find_46 rfl (Nat.le_of_ble_eq_true rfl) (by decide) (by decide) (c_Walks_bestBesideX h42 Ih42 v41 v41Z v41E z68 ((v6Z + 1)) z68E w wZ wE K43 g gZ gE K44 (by omega) (by omega)) (fun z69 h70 z69Z z69E p71 => ?_)
                obtain ⟨eh70, p71⟩ := p71
                subst eh70
                refine V_goto 53 d_Walks_find_49 (by decide) ?_
                have hto : z69Z = bbN ((vv9 (svC h pZ mZ oZ) wZ gZ nZ) (nZ - 1 - (v6Z + 1)).toNat) wZ gZ v41Z 4 := z69E.symm.trans (p71.trans (bbN_cg (by omega) (by omega) (by omega) (fun i hi => by have q9 := hr9 (v6Z + 1) (by omega) (by omega) i (by omega) hi; rw [Nat.zero_add] at q9; exact q9) 4 (by omega)))
                have hbt := bbN_4 (f := (vv9 (svC h pZ mZ oZ) wZ gZ nZ) (nZ - 1 - (v6Z + 1)).toNat) (W := wZ) (G := gZ) (c := v41Z) (by omega) (by omega) (by omega)
                refine V_istore 7 [some (.ref 93), some (.ref 0), some (.int c), some (.int o), some (.int n), some (.int v6), some (.int v41), some (.int z69)] d_Walks_find_53 (by decide) rfl rfl ?_
                refine V_aload_n 0 d_Walks_find_55 rfl rfl ?_
                refine V_getR fa_Walks_11 sk_93 rfl d_Walks_find_56 ?_
                refine V_iload d_Walks_find_59 rfl ?_
                refine V_aald (r := (95 + (v6Z).toNat)) sk_94 (by decide) v6E (by omega) (gridAt (by omega)) d_Walks_find_61 ?_
                refine V_iload d_Walks_find_62 rfl ?_
                refine V_aload_n 1 d_Walks_find_64 rfl rfl ?_
                refine V_iload d_Walks_find_65 rfl ?_
                refine V_iload_n 3 d_Walks_find_67 rfl rfl ?_
                refine V_iload d_Walks_find_68 rfl ?_
                refine V_iconst 1 d_Walks_find_70 (by decide) ?_
                refine V_iadd v6E tc_1 (by omega) d_Walks_find_71 (fun z72 z72e z72E => ?_)
                refine N_callSI [.ref 0, .int v41, .int o, .int z72] [.int v41, .ref (95 + (v6Z).toNat)] cs_Walks_36 d_Walks_find_72 rfl (Nat.le_of_ble_eq_true rfl) (by decide) (by decide) (c_Walks_shownInX h42 Ih42 v41 v41Z v41E o oZ oE z72 ((v6Z + 1)) z72E p pZ pE K45 m mZ mE K46 (by omega) (by omega) (fun i hi => by rw [Fh42.1 3 i rfl]; exact hy2 i hi)) (fun z73 h74 z73Z z73E p75 => ?_)
                obtain ⟨eh74, p75⟩ := p75
                subst eh74
                have hsv : z73Z = svC h pZ mZ oZ (v41Z).toNat (v6Z + 1) := z73E.symm.trans (p75.trans (svC_fr Fh42 rfl))
                have hsb := svv_b (twC h pZ mZ (v41Z).toNat oZ (v6Z + 1)) (h.1 2 (v41Z).toNat).toInt
                have hsb2 : -1 ≤ z73Z ∧ z73Z ≤ 2 := by rw [hsv]; exact hsb
                refine V_iload d_Walks_find_75 rfl ?_
                refine V_if_ge 84 z69E d_Walks_find_77 (by decide) (fun c76 => ?_) (fun c76 => ?_)
                ·
                  refine V_aload_n 0 d_Walks_find_84 rfl rfl ?_
                  refine V_getR fa_Walks_11 sk_93 rfl d_Walks_find_85 ?_
                  refine V_iload d_Walks_find_88 rfl ?_
                  refine V_iconst 1 d_Walks_find_90 (by decide) ?_
                  refine V_iadd v6E tc_1 (by omega) d_Walks_find_91 (fun z77 z77e z77E => ?_)
                  refine V_aald (r := (95 + ((v6Z + 1)).toNat)) sk_94 (by decide) z77E (by omega) (gridAt (by omega)) d_Walks_find_92 ?_
                  refine V_iload d_Walks_find_93 rfl ?_
                  refine N_iald (gridSk (by omega)) z69E (by omega) d_Walks_find_95 (fun z78 z78Z z78E z78e => ?_)
                  have hx0 : z78Z = (vv9 (svC h pZ mZ oZ) wZ gZ nZ) (nZ - 1 - (v6Z + 1)).toNat (z69Z).toNat := by have q9 := hr9 (v6Z + 1) (by omega) (by omega) (z69Z).toNat (by omega) (by omega); rw [Nat.zero_add] at q9; rw [← z78E, z78e]; exact q9
                  have hxb := hb0 (nZ - 1 - (v6Z + 1)).toNat (z69Z).toNat
                  rw [← hx0] at hxb
                  refine V_iadd z73E z78E (by omega) d_Walks_find_96 (fun z79 z79e z79E => ?_)
                  have hv9 : (z73Z + z78Z) = (vv9 (svC h pZ mZ oZ) wZ gZ nZ) (nZ - 1 - v6Z).toNat (v41Z).toNat := by rw [vv9_s (by omega) (by omega) (by omega), ← hto, ← hx0, ← hsv]
                  refine N_iast (gridSk (by omega)) v41E (by omega) d_Walks_find_97 (fun h80 eh80 => ?_)
                  have hI81 : Inv h80 := inv_full Ih42 eh80 (gridRg (by omega) _)
                  have f82 : fr S_Walks_findX h h80 := fr_put Fh42 eh80 (gridIn (by omega) rfl _)
                  obtain ⟨z83, z83E, z83e⟩ : ∃ y : Int32, y.toInt = v41Z + 1 ∧ y = v41 + Int32.ofInt 1 := ⟨_, ti_add v41E (by decide) (by omega), rfl⟩
                  refine V_iinc 6 [some (.ref 93), some (.ref 0), some (.int c), some (.int o), some (.int n), some (.int v6), some (.int z83), some (.int z69)] d_Walks_find_98 rfl z83e.symm (by decide) rfl rfl ?_
                  refine V_goto 14 d_Walks_find_101 (by decide) ?_
                  refine V_drop 7 [some (.ref 93), some (.ref 0), some (.int c), some (.int o), some (.int n), some (.int v6), some (.int z83), none] rfl ?_
                  exact ihL39 z83 ((v41Z + 1)) h80 z83E hI81 f82 (kn_ne eh80 K43 (by omega)) (kn_ne eh80 K44 (by omega)) (kn_ne eh80 K45 (by omega)) (kn_ne eh80 K46 (by omega)) (by omega) (fun i a b => VR_ne (hr9 i a b) eh80 (Or.inl (by omega)) (by omega)) (VR_s (by assumption) (by omega) eh80 (by omega) z79E hv9) (by omega)
                ·
                  refine V_iconst 0 d_Walks_find_80 (by decide) ?_
                  refine V_goto 96 d_Walks_find_81 (by decide) ?_
                  refine V_iadd z73E tc_0 (by omega) d_Walks_find_96 (fun z84 z84e z84E => ?_)
                  have hv9 : (z73Z + 0) = (vv9 (svC h pZ mZ oZ) wZ gZ nZ) (nZ - 1 - v6Z).toNat (v41Z).toNat := by rw [vv9_n (by omega), ← hsv]; omega
                  refine N_iast (gridSk (by omega)) v41E (by omega) d_Walks_find_97 (fun h85 eh85 => ?_)
                  have hI86 : Inv h85 := inv_full Ih42 eh85 (gridRg (by omega) _)
                  have f87 : fr S_Walks_findX h h85 := fr_put Fh42 eh85 (gridIn (by omega) rfl _)
                  obtain ⟨z88, z88E, z88e⟩ : ∃ y : Int32, y.toInt = v41Z + 1 ∧ y = v41 + Int32.ofInt 1 := ⟨_, ti_add v41E (by decide) (by omega), rfl⟩
                  refine V_iinc 6 [some (.ref 93), some (.ref 0), some (.int c), some (.int o), some (.int n), some (.int v6), some (.int z88), some (.int z69)] d_Walks_find_98 rfl z88e.symm (by decide) rfl rfl ?_
                  refine V_goto 14 d_Walks_find_101 (by decide) ?_
                  refine V_drop 7 [some (.ref 93), some (.ref 0), some (.int c), some (.int o), some (.int n), some (.int v6), some (.int z88), none] rfl ?_
                  exact ihL39 z88 ((v41Z + 1)) h85 z88E hI86 f87 (kn_ne eh85 K43 (by omega)) (kn_ne eh85 K44 (by omega)) (kn_ne eh85 K45 (by omega)) (kn_ne eh85 K46 (by omega)) (by omega) (fun i a b => VR_ne (hr9 i a b) eh85 (Or.inl (by omega)) (by omega)) (VR_s (by assumption) (by omega) eh85 (by omega) z84E hv9) (by omega)
        exact L39 (Int.toNat ((16 - 0 : Int) + 1)) 0 0 h7 tc_0 Ih7 Fh7 K8 K9 K10 K11 (by omega) (by assumption) VR_0 (by omega)
  exact L4 (Int.toNat (((nZ - 1) + 1 : Int) + 1)) z3 ((nZ - 1)) h z3E hI f0 wK gK pK mK (by omega) (fun i a b => by omega) (by omega)
abbrev q_Walks_mostX (h : Hp) (c : Int32) (cZ : Int) : Option Value → Hp → Prop := pInt (fun r h' => h = h' ∧ (r.toInt = 10 + (h.1 95 cZ.toNat).toInt))
set_option maxRecDepth 100000 in
theorem c_Walks_mostX (h : Hp) (hI : Inv h) (c : Int32) (cZ : Int) (cE : c.toInt = cZ) (hy0 : 0 ≤ cZ ∧ cZ ≤ 15) (hy1 : -100 ≤ (h.1 95 cZ.toNat).toInt ∧ (h.1 95 cZ.toNat).toInt ≤ 100) : Ct y_Walks_most b_Walks_most 2 (some .int) 0 0 [.ref 93, .int c] h (q_Walks_mostX h c cZ) := by
  refine ct_ow R_Walks [some (.ref 93), some (.int c)] rfl (by decide) rfl (Nat.le_of_ble_eq_true rfl) ?_
  have f0 : fr [] h h := fr_rf
  obtain ⟨uv, uvZ, uvE, uvK⟩ : ∃ (y : Int32) (Y : Int), y.toInt = Y ∧ h.1 95 (cZ).toNat = y := ⟨_, _, rfl, rfl⟩
  rw [uvK, uvE] at hy1
  refine V_bipush 10 d_Walks_most_0 (by decide) ?_
  refine V_aload_n 0 d_Walks_most_2 rfl rfl ?_
  refine V_getR fa_Walks_11 sk_93 rfl d_Walks_most_3 ?_
  refine V_iconst 0 d_Walks_most_6 (by decide) ?_
  refine V_aald (r := 95) sk_94 (by decide) tc_0 (by omega) rfl d_Walks_most_7 ?_
  refine V_iload_n 1 d_Walks_most_8 rfl rfl ?_
  refine N_ialdK sk_95 cE (by omega) d_Walks_most_9 uvK ?_
  refine V_iadd tc_10 uvE (by omega) d_Walks_most_10 (fun z2 z2e z2E => ?_)
  exact V_iret rfl d_Walks_most_11 ⟨z2, rfl, ⟨rfl, (by rw [uvK, uvE, z2E])⟩⟩
def S_Rod_showX : List (Nat × Option Nat) := [(95, none), (96, none), (97, none), (98, none), (99, none), (100, none), (101, none)]
abbrev q_Rod_showX (h : Hp) (c : Int32) (cZ : Int) (o : Int32) (oZ : Int) (n : Int32) (nZ : Int) (a : Int32) (aZ : Int) (w : Int32) (wZ : Int) (g : Int32) (gZ : Int) (p : Int32) (pZ : Int) (m : Int32) (mZ : Int) : Option Value → Hp → Prop := pInt (fun r h' => Inv h' ∧ fr S_Rod_showX h h' ∧ (TSa ((0 ≤ cZ ∧ cZ < wZ * gZ) ∧ (0 ≤ oZ ∧ oZ ≤ 3) ∧ (1 ≤ nZ ∧ nZ ≤ 6) ∧ (aZ = 0 ∨ 10 ≤ aZ ∧ aZ - 10 < nZ)) r (SWr (vv9 (svC h pZ mZ oZ) wZ gZ nZ) wZ gZ nZ cZ aZ)))
set_option maxRecDepth 100000 in
theorem c_Rod_showX (h : Hp) (hI : Inv h) (c : Int32) (cZ : Int) (cE : c.toInt = cZ) (o : Int32) (oZ : Int) (oE : o.toInt = oZ) (n : Int32) (nZ : Int) (nE : n.toInt = nZ) (a : Int32) (aZ : Int) (aE : a.toInt = aZ) (w : Int32) (wZ : Int) (wE : w.toInt = wZ) (wK : h.1 1 0 = w) (g : Int32) (gZ : Int) (gE : g.toInt = gZ) (gK : h.1 1 1 = g) (p : Int32) (pZ : Int) (pE : p.toInt = pZ) (pK : h.1 0 3 = p) (m : Int32) (mZ : Int) (mE : m.toInt = mZ) (mK : h.1 0 4 = m) (hy0 : ∀ i : Nat, i < 16 → 0 ≤ (h.1 3 i).toInt ∧ (h.1 3 i).toInt ≤ 1) : Ct y_Rod_show b_Rod_show 5 (some .int) 5 117 [.ref 85, .int c, .int o, .int n, .int a] h (q_Rod_showX h c cZ o oZ n nZ a aZ w wZ g gZ p pZ m mZ) := by
  refine ct_ow R_Rod [some (.ref 85), some (.int c), some (.int o), some (.int n), some (.int a)] rfl (by decide) rfl (Nat.le_of_ble_eq_true rfl) ?_
  have f0 : fr S_Rod_showX h h := fr_rf
  have g1 : 2 ≤ wZ ∧ wZ ≤ 4 := inv_at hI wE wK.symm rfl
  have g2 : 2 ≤ gZ ∧ gZ ≤ 4 := inv_at hI gE gK.symm rfl
  have aB := And.intro (ti_lo a) (ti_hi a)
  rw [aE] at aB
  have m24 := mul24 (A := wZ) (B := gZ) (by omega) (by omega)
  refine V_aload_n 0 d_Rod_show_0 rfl rfl ?_
  refine V_getR fa_Rod_12 sk_85 rfl d_Rod_show_1 ?_
  refine V_getR fa_Rod_91 sk_0 rfl d_Rod_show_4 ?_
  refine V_iload_n 1 d_Rod_show_7 rfl rfl ?_
  refine N_callVI [.int c] [] cv_Rod_124 sk_1 rfl d_Rod_show_8 rfl (Nat.le_of_ble_eq_true rfl) (by decide) (by decide) (c_Land_hasX_0 h hI c cZ cE w wZ wE wK g gZ gE gK) (fun z3 h4 z3Z z3E p5 => ?_)
  obtain ⟨eh4, p5⟩ := p5
  subst eh4
  refine V_if_eq 32 z3E d_Rod_show_11 (by decide) (fun c6 => ?_) (fun c6 => ?_)
  ·
    refine V_iconst (-1) d_Rod_show_32 (by decide) ?_
    exact V_iret rfl d_Rod_show_33 ⟨(-1), rfl, ⟨hI, f0, (Or.inr ⟨by omega, tc_m1⟩)⟩⟩
  ·
    refine V_iload_n 2 d_Rod_show_14 rfl rfl ?_
    refine N_callSI [.int o] [] cs_Rod_151 d_Rod_show_15 rfl (Nat.le_of_ble_eq_true rfl) (by decide) (by decide) (c_Rod_isOwner h o oZ oE) (fun z7 h8 z7Z z7E p9 => ?_)
    obtain ⟨eh8, p9⟩ := p9
    subst eh8
    refine V_if_eq 32 z7E d_Rod_show_18 (by decide) (fun c10 => ?_) (fun c10 => ?_)
    ·
      refine V_iconst (-1) d_Rod_show_32 (by decide) ?_
      exact V_iret rfl d_Rod_show_33 ⟨(-1), rfl, ⟨hI, f0, (Or.inr ⟨by omega, tc_m1⟩)⟩⟩
    ·
      refine V_iload_n 3 d_Rod_show_21 rfl rfl ?_
      refine V_iconst 1 d_Rod_show_22 (by decide) ?_
      refine V_icmp_lt 32 nE tc_1 d_Rod_show_23 (by decide) (fun c11 => ?_) (fun c11 => ?_)
      ·
        refine V_iconst (-1) d_Rod_show_32 (by decide) ?_
        exact V_iret rfl d_Rod_show_33 ⟨(-1), rfl, ⟨hI, f0, (Or.inr ⟨by omega, tc_m1⟩)⟩⟩
      ·
        refine V_iload_n 3 d_Rod_show_26 rfl rfl ?_
        refine V_bipush 6 d_Rod_show_27 (by decide) ?_
        refine V_icmp_le 34 nE tc_6 d_Rod_show_29 (by decide) (fun c12 => ?_) (fun c12 => ?_)
        ·
          refine V_iload d_Rod_show_34 rfl ?_
          refine V_if_eq 57 aE d_Rod_show_36 (by decide) (fun c13 => ?_) (fun c13 => ?_)
          ·
            refine V_aload_n 0 d_Rod_show_57 rfl rfl ?_
            refine V_getR fa_Rod_42 sk_85 rfl d_Rod_show_58 ?_
            refine V_aload_n 0 d_Rod_show_61 rfl rfl ?_
            refine V_getR fa_Rod_12 sk_85 rfl d_Rod_show_62 ?_
            refine V_iload_n 1 d_Rod_show_65 rfl rfl ?_
            refine V_iload_n 2 d_Rod_show_66 rfl rfl ?_
            refine V_iload_n 3 d_Rod_show_67 rfl rfl ?_
            refine N_callVV [.ref 0, .int c, .int o, .int n] [] cv_Rod_217 sk_93 rfl d_Rod_show_68 rfl (Nat.le_of_ble_eq_true rfl) (by decide) (by decide) (c_Walks_findX h hI c cZ cE o oZ oE n nZ nE w wZ wE wK g gZ gE gK p pZ pE pK m mZ mE mK (by omega) (by omega) hy0) (fun h15 p16 => ?_)
            obtain ⟨hI17, fh15, p16⟩ := p16
            have f18 : fr S_Rod_showX h h15 := fr_call f0 fh15 rfl
            have hvb := vv9_b (sv := svC h pZ mZ oZ) (W := wZ) (G := gZ) (n := nZ) (fun c s => svv_b _ _) (nZ - 1).toNat cZ.toNat
            have h95 : (h15.1 95 cZ.toNat).toInt = (vv9 (svC h pZ mZ oZ) wZ gZ nZ) (nZ - 1).toNat cZ.toNat := by have q9 := p16.1 0 (by omega) (by omega) cZ.toNat (by omega) (by omega); rw [Nat.zero_add, show nZ - 1 - 0 = nZ - 1 by omega] at q9; exact q9
            refine V_iload d_Rod_show_71 rfl ?_
            refine V_if_ne 87 aE d_Rod_show_73 (by decide) (fun c19 => ?_) (fun c19 => ?_)
            ·
              refine V_aload_n 0 d_Rod_show_87 rfl rfl ?_
              refine V_getR fa_Rod_42 sk_85 rfl d_Rod_show_88 ?_
              refine V_getR fa_Rod_224 sk_93 rfl d_Rod_show_91 ?_
              refine V_iload d_Rod_show_94 rfl ?_
              refine V_bipush 10 d_Rod_show_96 (by decide) ?_
              refine V_isub aE tc_10 (by omega) d_Rod_show_98 (fun z20 z20e z20E => ?_)
              refine N_iald sk_101 z20E (by omega) d_Rod_show_99 (fun z21 z21Z z21E z21e => ?_)
              exact V_iret rfl d_Rod_show_100 ⟨z21, rfl, ⟨hI17, f18, (Or.inl ⟨by omega, by unfold SWr; rw [if_neg (by omega), z21e]; exact p16.2 _ (by omega)⟩)⟩⟩
            ·
              refine V_aload_n 0 d_Rod_show_76 rfl rfl ?_
              refine V_getR fa_Rod_42 sk_85 rfl d_Rod_show_77 ?_
              refine V_iload_n 1 d_Rod_show_80 rfl rfl ?_
              refine N_callVI [.int c] [] cv_Rod_221 sk_93 rfl d_Rod_show_81 rfl (Nat.le_of_ble_eq_true rfl) (by decide) (by decide) (c_Walks_mostX h15 hI17 c cZ cE (by omega) (by rw [h95]; omega)) (fun z22 h23 z22Z z22E p24 => ?_)
              obtain ⟨eh23, p24⟩ := p24
              subst eh23
              refine V_goto 100 d_Rod_show_84 (by decide) ?_
              exact V_iret rfl d_Rod_show_100 ⟨z22, rfl, ⟨hI17, f18, (Or.inl ⟨by omega, by unfold SWr; rw [if_pos (by omega), p24, h95]⟩)⟩⟩
          ·
            refine V_iload d_Rod_show_39 rfl ?_
            refine V_bipush 10 d_Rod_show_41 (by decide) ?_
            refine V_icmp_lt 55 aE tc_10 d_Rod_show_43 (by decide) (fun c25 => ?_) (fun c25 => ?_)
            ·
              refine V_iconst (-1) d_Rod_show_55 (by decide) ?_
              exact V_iret rfl d_Rod_show_56 ⟨(-1), rfl, ⟨hI, f0, (Or.inr ⟨by omega, tc_m1⟩)⟩⟩
            ·
              refine V_iload d_Rod_show_46 rfl ?_
              refine V_bipush 10 d_Rod_show_48 (by decide) ?_
              refine V_isub aE tc_10 (by omega) d_Rod_show_50 (fun z26 z26e z26E => ?_)
              refine V_iload_n 3 d_Rod_show_51 rfl rfl ?_
              refine V_icmp_lt 57 z26E nE d_Rod_show_52 (by decide) (fun c27 => ?_) (fun c27 => ?_)
              ·
                refine V_aload_n 0 d_Rod_show_57 rfl rfl ?_
                refine V_getR fa_Rod_42 sk_85 rfl d_Rod_show_58 ?_
                refine V_aload_n 0 d_Rod_show_61 rfl rfl ?_
                refine V_getR fa_Rod_12 sk_85 rfl d_Rod_show_62 ?_
                refine V_iload_n 1 d_Rod_show_65 rfl rfl ?_
                refine V_iload_n 2 d_Rod_show_66 rfl rfl ?_
                refine V_iload_n 3 d_Rod_show_67 rfl rfl ?_
                refine N_callVV [.ref 0, .int c, .int o, .int n] [] cv_Rod_217 sk_93 rfl d_Rod_show_68 rfl (Nat.le_of_ble_eq_true rfl) (by decide) (by decide) (c_Walks_findX h hI c cZ cE o oZ oE n nZ nE w wZ wE wK g gZ gE gK p pZ pE pK m mZ mE mK (by omega) (by omega) hy0) (fun h29 p30 => ?_)
                obtain ⟨hI31, fh29, p30⟩ := p30
                have f32 : fr S_Rod_showX h h29 := fr_call f0 fh29 rfl
                have hvb := vv9_b (sv := svC h pZ mZ oZ) (W := wZ) (G := gZ) (n := nZ) (fun c s => svv_b _ _) (nZ - 1).toNat cZ.toNat
                have h95 : (h29.1 95 cZ.toNat).toInt = (vv9 (svC h pZ mZ oZ) wZ gZ nZ) (nZ - 1).toNat cZ.toNat := by have q9 := p30.1 0 (by omega) (by omega) cZ.toNat (by omega) (by omega); rw [Nat.zero_add, show nZ - 1 - 0 = nZ - 1 by omega] at q9; exact q9
                refine V_iload d_Rod_show_71 rfl ?_
                refine V_if_ne 87 aE d_Rod_show_73 (by decide) (fun c33 => ?_) (fun c33 => ?_)
                ·
                  refine V_aload_n 0 d_Rod_show_87 rfl rfl ?_
                  refine V_getR fa_Rod_42 sk_85 rfl d_Rod_show_88 ?_
                  refine V_getR fa_Rod_224 sk_93 rfl d_Rod_show_91 ?_
                  refine V_iload d_Rod_show_94 rfl ?_
                  refine V_bipush 10 d_Rod_show_96 (by decide) ?_
                  refine V_isub aE tc_10 (by omega) d_Rod_show_98 (fun z34 z34e z34E => ?_)
                  refine N_iald sk_101 z34E (by omega) d_Rod_show_99 (fun z35 z35Z z35E z35e => ?_)
                  exact V_iret rfl d_Rod_show_100 ⟨z35, rfl, ⟨hI31, f32, (Or.inl ⟨by omega, by unfold SWr; rw [if_neg (by omega), z35e]; exact p30.2 _ (by omega)⟩)⟩⟩
                ·
                  refine V_aload_n 0 d_Rod_show_76 rfl rfl ?_
                  refine V_getR fa_Rod_42 sk_85 rfl d_Rod_show_77 ?_
                  refine V_iload_n 1 d_Rod_show_80 rfl rfl ?_
                  refine N_callVI [.int c] [] cv_Rod_221 sk_93 rfl d_Rod_show_81 rfl (Nat.le_of_ble_eq_true rfl) (by decide) (by decide) (c_Walks_mostX h29 hI31 c cZ cE (by omega) (by rw [h95]; omega)) (fun z36 h37 z36Z z36E p38 => ?_)
                  obtain ⟨eh37, p38⟩ := p38
                  subst eh37
                  refine V_goto 100 d_Rod_show_84 (by decide) ?_
                  exact V_iret rfl d_Rod_show_100 ⟨z36, rfl, ⟨hI31, f32, (Or.inl ⟨by omega, by unfold SWr; rw [if_pos (by omega), p38, h95]⟩)⟩⟩
              ·
                refine V_iconst (-1) d_Rod_show_55 (by decide) ?_
                exact V_iret rfl d_Rod_show_56 ⟨(-1), rfl, ⟨hI, f0, (Or.inr ⟨by omega, tc_m1⟩)⟩⟩
        ·
          refine V_iconst (-1) d_Rod_show_32 (by decide) ?_
          exact V_iret rfl d_Rod_show_33 ⟨(-1), rfl, ⟨hI, f0, (Or.inr ⟨by omega, tc_m1⟩)⟩⟩
def S_Mod_findShownX : List (Nat × Option Nat) := [(122, none)]
abbrev q_Mod_findShownX (h : Hp) (o : Int32) (oZ : Int) (n : Int32) (nZ : Int) (w : Int32) (wZ : Int) (g : Int32) (gZ : Int) (p : Int32) (pZ : Int) (m : Int32) (mZ : Int) : Option Value → Hp → Prop := pVd (fun h' => Inv h' ∧ fr S_Mod_findShownX h h' ∧ (∀ i : Int, 1 ≤ i → i ≤ nZ → VR (vv9 (svM h pZ mZ oZ) wZ gZ nZ) (wZ * gZ) h' 122 (16 * i.toNat) (nZ - i).toNat 16))
set_option maxRecDepth 100000 in
theorem c_Mod_findShownX (h : Hp) (hI : Inv h) (o : Int32) (oZ : Int) (oE : o.toInt = oZ) (n : Int32) (nZ : Int) (nE : n.toInt = nZ) (w : Int32) (wZ : Int) (wE : w.toInt = wZ) (wK : h.1 116 2 = w) (g : Int32) (gZ : Int) (gE : g.toInt = gZ) (gK : h.1 116 3 = g) (p : Int32) (pZ : Int) (pE : p.toInt = pZ) (pK : h.1 117 84 = p) (m : Int32) (mZ : Int) (mE : m.toInt = mZ) (mK : h.1 117 85 = m) (hy0 : 1 ≤ nZ ∧ nZ ≤ 6) : Ct y_Mod_findShown b_Mod_findShown 6 none 3 68 [.ref 116, .int o, .int n] h (q_Mod_findShownX h o oZ n nZ w wZ g gZ p pZ m mZ) := by
  refine ct_ow R_Mod [some (.ref 116), some (.int o), some (.int n), none, none, none] rfl (by decide) rfl (Nat.le_of_ble_eq_true rfl) ?_
  have f0 : fr S_Mod_findShownX h h := fr_rf
  have g1 : 2 ≤ wZ ∧ wZ ≤ 4 := inv_at hI wE wK.symm rfl
  have g2 : 2 ≤ gZ ∧ gZ ≤ 4 := inv_at hI gE gK.symm rfl
  have m24 := mul24 (A := wZ) (B := gZ) (by omega) (by omega)
  refine V_iload_n 2 d_Mod_findShown_0 rfl rfl ?_
  refine V_istore_n 3 [some (.ref 116), some (.int o), some (.int n), some (.int n), none, none] d_Mod_findShown_1 rfl (by decide) rfl rfl ?_
  have L3 : ∀ (nn : Nat) (v5 : Int32) (v5Z : Int) (h6 : Hp), v5.toInt = v5Z → Inv h6 → fr S_Mod_findShownX h h6 → h6.1 116 2 = w → h6.1 116 3 = g → h6.1 117 84 = p → h6.1 117 85 = m → 0 ≤ v5Z ∧ v5Z ≤ nZ → (∀ i : Int, v5Z < i → i ≤ nZ → VR (vv9 (svM h pZ mZ oZ) wZ gZ nZ) (wZ * gZ) h6 122 (16 * i.toNat) (nZ - i).toNat 16) → v5Z < (nn : Int) → V R_Mod b_Mod_findShown 6 none 3 68 (q_Mod_findShownX h o oZ n nZ w wZ g gZ p pZ m mZ) h6 2 [some (.ref 116), some (.int o), some (.int n), some (.int v5), none, none] [] := by
    intro nn
    induction nn with
    | zero => intro v5 v5Z h6 v5E Ih6 Fh6 K7 K8 K9 K10 q11 q12 hm13; exact absurd hm13 (by omega)
    | succ nn ihL3 =>
      intro v5 v5Z h6 v5E Ih6 Fh6 K7 K8 K9 K10 q11 q12 hm13
      refine V_iload_n 3 d_Mod_findShown_2 rfl rfl ?_
      refine V_iconst 1 d_Mod_findShown_3 (by decide) ?_
      refine V_icmp_lt 86 v5E tc_1 d_Mod_findShown_4 (by decide) (fun c14 => ?_) (fun c14 => ?_)
      ·
        exact V_vret rfl d_Mod_findShown_86 ⟨rfl, ⟨Ih6, Fh6, (fun i a b => (show (∀ i : Int, v5Z < i → i ≤ nZ → VR (vv9 (svM h pZ mZ oZ) wZ gZ nZ) (wZ * gZ) h6 122 (16 * i.toNat) (nZ - i).toNat 16) from by assumption) i (by omega) b)⟩⟩
      ·
        refine V_iconst 0 d_Mod_findShown_7 (by decide) ?_
        refine V_istore 4 [some (.ref 116), some (.int o), some (.int n), some (.int v5), some (.int 0), none] d_Mod_findShown_8 (by decide) rfl rfl ?_
        have L15 : ∀ (nn : Nat) (v17 : Int32) (v17Z : Int) (h18 : Hp), v17.toInt = v17Z → Inv h18 → fr S_Mod_findShownX h h18 → h18.1 116 2 = w → h18.1 116 3 = g → h18.1 117 84 = p → h18.1 117 85 = m → 0 ≤ v17Z ∧ v17Z ≤ wZ * gZ → (∀ i : Int, v5Z < i → i ≤ nZ → VR (vv9 (svM h pZ mZ oZ) wZ gZ nZ) (wZ * gZ) h18 122 (16 * i.toNat) (nZ - i).toNat 16) → VR (vv9 (svM h pZ mZ oZ) wZ gZ nZ) (wZ * gZ) h18 122 (16 * (v5Z).toNat) (nZ - v5Z).toNat v17Z → 16 - v17Z < (nn : Int) → V R_Mod b_Mod_findShown 6 none 3 68 (q_Mod_findShownX h o oZ n nZ w wZ g gZ p pZ m mZ) h18 10 [some (.ref 116), some (.int o), some (.int n), some (.int v5), some (.int v17), none] [] := by
          intro nn
          induction nn with
          | zero => intro v17 v17Z h18 v17E Ih18 Fh18 K19 K20 K21 K22 q23 q24 q25 hm26; exact absurd hm26 (by omega)
          | succ nn ihL15 =>
            intro v17 v17Z h18 v17E Ih18 Fh18 K19 K20 K21 K22 q23 q24 q25 hm26
            refine V_iload d_Mod_findShown_10 rfl ?_
            refine V_aload_n 0 d_Mod_findShown_12 rfl rfl ?_
            refine N_callVI [] [.int v17] cv_Mod_183 sk_116 rfl d_Mod_findShown_13 rfl (Nat.le_of_ble_eq_true rfl) (by decide) (by decide) (c_Mod_cellMany h18 Ih18 w wZ wE K19 g gZ gE K20) (fun z27 h28 z27Z z27E p29 => ?_)
            obtain ⟨eh28, p29⟩ := p29
            subst eh28
            refine V_icmp_ge 80 v17E z27E d_Mod_findShown_16 (by decide) (fun c30 => ?_) (fun c30 => ?_)
            ·
              obtain ⟨z31, z31E, z31e⟩ : ∃ y : Int32, y.toInt = v5Z + (-1) ∧ y = v5 + Int32.ofInt (-1) := ⟨_, ti_add v5E (by decide) (by omega), rfl⟩
              refine V_iinc 3 [some (.ref 116), some (.int o), some (.int n), some (.int z31), some (.int v17), none] d_Mod_findShown_80 rfl z31e.symm (by decide) rfl rfl ?_
              refine V_goto 2 d_Mod_findShown_83 (by decide) ?_
              refine V_drop 4 [some (.ref 116), some (.int o), some (.int n), some (.int z31), none, none] rfl ?_
              exact ihL3 z31 ((v5Z + (-1))) h18 z31E Ih18 Fh18 K19 K20 K21 K22 (by omega) (fun i a b => by by_cases q : i = v5Z; exact (by rw [q]; exact fun c hc hw => (show VR (vv9 (svM h pZ mZ oZ) wZ gZ nZ) (wZ * gZ) h18 122 (16 * (v5Z).toNat) (nZ - v5Z).toNat v17Z from by assumption) c (by omega) hw); exact (show (∀ i : Int, v5Z < i → i ≤ nZ → VR (vv9 (svM h pZ mZ oZ) wZ gZ nZ) (wZ * gZ) h18 122 (16 * i.toNat) (nZ - i).toNat 16) from by assumption) i (by omega) b) (by omega)
            ·
              have hr9 : (∀ i : Int, v5Z < i → i ≤ nZ → VR (vv9 (svM h pZ mZ oZ) wZ gZ nZ) (wZ * gZ) h18 122 (16 * i.toNat) (nZ - i).toNat 16) := by assumption
              have hb0 := vv9_b (sv := svM h pZ mZ oZ) (W := wZ) (G := gZ) (n := nZ) (fun c s => svv_b _ _)
              refine V_iload_n 3 d_Mod_findShown_19 rfl rfl ?_
              refine V_iload_n 2 d_Mod_findShown_20 rfl rfl ?_
              refine V_icmp_ne 28 v5E nE d_Mod_findShown_21 (by decide) (fun c32 => ?_) (fun c32 => ?_)
              ·
                refine V_aload_n 0 d_Mod_findShown_28 rfl rfl ?_
                refine V_getR fa_Mod_26 sk_116 rfl d_Mod_findShown_29 ?_
                refine V_bipush 16 d_Mod_findShown_32 (by decide) ?_
                refine V_iload_n 3 d_Mod_findShown_34 rfl rfl ?_
                refine V_iconst 1 d_Mod_findShown_35 (by decide) ?_
                refine V_iadd v5E tc_1 (by omega) d_Mod_findShown_36 (fun z33 z33e z33E => ?_)
                refine V_imul tc_16 z33E (by omega) d_Mod_findShown_37 (fun z34 z34e z34E => ?_)
                refine V_aload_n 0 d_Mod_findShown_38 rfl rfl ?_
                refine V_iload d_Mod_findShown_39 rfl ?_
                refine V_iload_n 3 d_Mod_findShown_41 rfl rfl ?_
                refine V_iconst 1 d_Mod_findShown_42 (by decide) ?_
                refine V_iadd v5E tc_1 (by omega) d_Mod_findShown_43 (fun z35 z35e z35E => ?_)
                refine N_callVI [.int v17, .int z35] [.int z34, .ref 122] cv_Mod_246 sk_116 rfl d_Mod_findShown_44 rfl (Nat.le_of_ble_eq_true rfl) (by decide) (by decide) (c_Mod_bestBesideX h18 Ih18 v17 v17Z v17E z35 ((v5Z + 1)) z35E w wZ wE K19 g gZ gE K20 (by omega) (by omega)) (fun z36 h37 z36Z z36E p38 => ?_)
                obtain ⟨eh37, p38⟩ := p38
                subst eh37
                have hto : z36Z = bbN ((vv9 (svM h pZ mZ oZ) wZ gZ nZ) (nZ - (v5Z + 1)).toNat) wZ gZ v17Z 4 := z36E.symm.trans (p38.trans (bbN_cg (by omega) (by omega) (by omega) (fun i hi => hr9 (v5Z + 1) (by omega) (by omega) i (by omega) hi) 4 (by omega)))
                have hbt := bbN_4 (f := (vv9 (svM h pZ mZ oZ) wZ gZ nZ) (nZ - (v5Z + 1)).toNat) (W := wZ) (G := gZ) (c := v17Z) (by omega) (by omega) (by omega)
                refine V_iadd z34E z36E (by omega) d_Mod_findShown_47 (fun z39 z39e z39E => ?_)
                refine N_iald sk_122 z39E (by omega) d_Mod_findShown_48 (fun z40 z40Z z40E z40e => ?_)
                have hx0 : z40Z = (vv9 (svM h pZ mZ oZ) wZ gZ nZ) (nZ - (v5Z + 1)).toNat (z36Z).toNat := by have q9 := hr9 (v5Z + 1) (by omega) (by omega) (z36Z).toNat (by omega) (by omega); rw [← z40E, z40e, show (16 * (v5Z + 1) + z36Z).toNat = 16 * (v5Z + 1).toNat + (z36Z).toNat by omega]; exact q9
                have hxb := hb0 (nZ - (v5Z + 1)).toNat (z36Z).toNat
                rw [← hx0] at hxb
                refine V_istore 5 [some (.ref 116), some (.int o), some (.int n), some (.int v5), some (.int v17), some (.int z40)] d_Mod_findShown_49 (by decide) rfl rfl ?_
                refine V_aload_n 0 d_Mod_findShown_51 rfl rfl ?_
                refine V_getR fa_Mod_26 sk_116 rfl d_Mod_findShown_52 ?_
                refine V_bipush 16 d_Mod_findShown_55 (by decide) ?_
                refine V_iload_n 3 d_Mod_findShown_57 rfl rfl ?_
                refine V_imul tc_16 v5E (by omega) d_Mod_findShown_58 (fun z41 z41e z41E => ?_)
                refine V_iload d_Mod_findShown_59 rfl ?_
                refine V_iadd z41E v17E (by omega) d_Mod_findShown_61 (fun z42 z42e z42E => ?_)
                refine V_aload_n 0 d_Mod_findShown_62 rfl rfl ?_
                refine V_iload d_Mod_findShown_63 rfl ?_
                refine V_iload_n 1 d_Mod_findShown_65 rfl rfl ?_
                refine V_iload_n 3 d_Mod_findShown_66 rfl rfl ?_
                refine N_callVI [.int v17, .int o, .int v5] [.int z42, .ref 122] cv_Mod_249 sk_116 rfl d_Mod_findShown_67 rfl (Nat.le_of_ble_eq_true rfl) (by decide) (by decide) (c_Mod_showsInX h18 Ih18 v17 v17Z v17E o oZ oE v5 v5Z v5E p pZ pE K21 m mZ mE K22 (by omega) (by omega)) (fun z43 h44 z43Z z43E p45 => ?_)
                obtain ⟨eh44, p45⟩ := p45
                subst eh44
                have hsv : z43Z = svM h pZ mZ oZ (v17Z).toNat v5Z := z43E.symm.trans (p45.trans (svM_fr Fh18 rfl))
                have hsb2 : -1 ≤ z43Z ∧ z43Z ≤ 2 := by rw [hsv]; exact svv_b _ _
                refine V_iload d_Mod_findShown_70 rfl ?_
                refine V_iadd z43E z40E (by omega) d_Mod_findShown_72 (fun z46 z46e z46E => ?_)
                have hv9 : (z43Z + z40Z) = (vv9 (svM h pZ mZ oZ) wZ gZ nZ) (nZ - v5Z).toNat (v17Z).toNat := by have q9 := vv9_s (sv := svM h pZ mZ oZ) (W := wZ) (G := gZ) (n := nZ) (L := (v5Z - 1)) (c := v17Z) (by omega) (by omega) (by omega); rw [show nZ - 1 - (v5Z - 1) = nZ - v5Z by omega, show (v5Z - 1) + 1 = v5Z by omega, show nZ - 1 - v5Z = nZ - (v5Z + 1) by omega] at q9; rw [q9, ← hto, ← hx0, ← hsv]
                refine N_iast sk_122 z42E (by omega) d_Mod_findShown_73 (fun h47 eh47 => ?_)
                have hI48 : Inv h47 := inv_full Ih18 eh47 rfl
                have f49 : fr S_Mod_findShownX h h47 := fr_put Fh18 eh47 rfl
                obtain ⟨z50, z50E, z50e⟩ : ∃ y : Int32, y.toInt = v17Z + 1 ∧ y = v17 + Int32.ofInt 1 := ⟨_, ti_add v17E (by decide) (by omega), rfl⟩
                refine V_iinc 4 [some (.ref 116), some (.int o), some (.int n), some (.int v5), some (.int z50), some (.int z40)] d_Mod_findShown_74 rfl z50e.symm (by decide) rfl rfl ?_
                refine V_goto 10 d_Mod_findShown_77 (by decide) ?_
                refine V_drop 5 [some (.ref 116), some (.int o), some (.int n), some (.int v5), some (.int z50), none] rfl ?_
                exact ihL15 z50 ((v17Z + 1)) h47 z50E hI48 f49 (kn_ne eh47 K19 (by decide)) (kn_ne eh47 K20 (by decide)) (kn_ne eh47 K21 (by decide)) (kn_ne eh47 K22 (by decide)) (by omega) (fun i a b => VR_ne (hr9 i a b) eh47 (Or.inr (by omega)) (by omega)) (VR_s (by assumption) (by omega) eh47 (by omega) z46E hv9) (by omega)
              ·
                refine V_iconst 0 d_Mod_findShown_24 (by decide) ?_
                refine V_goto 49 d_Mod_findShown_25 (by decide) ?_
                refine V_istore 5 [some (.ref 116), some (.int o), some (.int n), some (.int v5), some (.int v17), some (.int 0)] d_Mod_findShown_49 (by decide) rfl rfl ?_
                refine V_aload_n 0 d_Mod_findShown_51 rfl rfl ?_
                refine V_getR fa_Mod_26 sk_116 rfl d_Mod_findShown_52 ?_
                refine V_bipush 16 d_Mod_findShown_55 (by decide) ?_
                refine V_iload_n 3 d_Mod_findShown_57 rfl rfl ?_
                refine V_imul tc_16 v5E (by omega) d_Mod_findShown_58 (fun z51 z51e z51E => ?_)
                refine V_iload d_Mod_findShown_59 rfl ?_
                refine V_iadd z51E v17E (by omega) d_Mod_findShown_61 (fun z52 z52e z52E => ?_)
                refine V_aload_n 0 d_Mod_findShown_62 rfl rfl ?_
                refine V_iload d_Mod_findShown_63 rfl ?_
                refine V_iload_n 1 d_Mod_findShown_65 rfl rfl ?_
                refine V_iload_n 3 d_Mod_findShown_66 rfl rfl ?_
                refine N_callVI [.int v17, .int o, .int v5] [.int z52, .ref 122] cv_Mod_249 sk_116 rfl d_Mod_findShown_67 rfl (Nat.le_of_ble_eq_true rfl) (by decide) (by decide) (c_Mod_showsInX h18 Ih18 v17 v17Z v17E o oZ oE v5 v5Z v5E p pZ pE K21 m mZ mE K22 (by omega) (by omega)) (fun z53 h54 z53Z z53E p55 => ?_)
                obtain ⟨eh54, p55⟩ := p55
                subst eh54
                have hsv : z53Z = svM h pZ mZ oZ (v17Z).toNat v5Z := z53E.symm.trans (p55.trans (svM_fr Fh18 rfl))
                have hsb2 : -1 ≤ z53Z ∧ z53Z ≤ 2 := by rw [hsv]; exact svv_b _ _
                refine V_iload d_Mod_findShown_70 rfl ?_
                refine V_iadd z53E tc_0 (by omega) d_Mod_findShown_72 (fun z56 z56e z56E => ?_)
                have hv9 : (z53Z + 0) = (vv9 (svM h pZ mZ oZ) wZ gZ nZ) (nZ - v5Z).toNat (v17Z).toNat := by rw [show (nZ - v5Z).toNat = 0 by omega]; show _ = svM h pZ mZ oZ (v17Z).toNat nZ; rw [show nZ = v5Z by omega, ← hsv]; omega
                refine N_iast sk_122 z52E (by omega) d_Mod_findShown_73 (fun h57 eh57 => ?_)
                have hI58 : Inv h57 := inv_full Ih18 eh57 rfl
                have f59 : fr S_Mod_findShownX h h57 := fr_put Fh18 eh57 rfl
                obtain ⟨z60, z60E, z60e⟩ : ∃ y : Int32, y.toInt = v17Z + 1 ∧ y = v17 + Int32.ofInt 1 := ⟨_, ti_add v17E (by decide) (by omega), rfl⟩
                refine V_iinc 4 [some (.ref 116), some (.int o), some (.int n), some (.int v5), some (.int z60), some (.int 0)] d_Mod_findShown_74 rfl z60e.symm (by decide) rfl rfl ?_
                refine V_goto 10 d_Mod_findShown_77 (by decide) ?_
                refine V_drop 5 [some (.ref 116), some (.int o), some (.int n), some (.int v5), some (.int z60), none] rfl ?_
                exact ihL15 z60 ((v17Z + 1)) h57 z60E hI58 f59 (kn_ne eh57 K19 (by decide)) (kn_ne eh57 K20 (by decide)) (kn_ne eh57 K21 (by decide)) (kn_ne eh57 K22 (by decide)) (by omega) (fun i a b => VR_ne (hr9 i a b) eh57 (Or.inr (by omega)) (by omega)) (VR_s (by assumption) (by omega) eh57 (by omega) z56E hv9) (by omega)
        exact L15 (Int.toNat ((16 - 0 : Int) + 1)) 0 0 h6 tc_0 Ih6 Fh6 K7 K8 K9 K10 (by omega) (by assumption) VR_0 (by omega)
  exact L3 (Int.toNat ((nZ : Int) + 1)) n nZ h nE hI f0 wK gK pK mK (by omega) (fun i a b => by omega) (by omega)
def S_Mod_showX : List (Nat × Option Nat) := [(122, none)]
abbrev q_Mod_showX (h : Hp) (c : Int32) (cZ : Int) (o : Int32) (oZ : Int) (n : Int32) (nZ : Int) (a : Int32) (aZ : Int) (w : Int32) (wZ : Int) (g : Int32) (gZ : Int) (p : Int32) (pZ : Int) (m : Int32) (mZ : Int) : Option Value → Hp → Prop := pInt (fun r h' => Inv h' ∧ fr S_Mod_showX h h' ∧ (TSa ((0 ≤ cZ ∧ cZ < wZ * gZ) ∧ (0 ≤ oZ ∧ oZ ≤ 3) ∧ (1 ≤ nZ ∧ nZ ≤ 6) ∧ (aZ = 0 ∨ 10 ≤ aZ ∧ aZ - 10 < nZ)) r (SWr (vv9 (svM h pZ mZ oZ) wZ gZ nZ) wZ gZ nZ cZ aZ)))
set_option maxRecDepth 100000 in
theorem c_Mod_showX (h : Hp) (hI : Inv h) (c : Int32) (cZ : Int) (cE : c.toInt = cZ) (o : Int32) (oZ : Int) (oE : o.toInt = oZ) (n : Int32) (nZ : Int) (nE : n.toInt = nZ) (a : Int32) (aZ : Int) (aE : a.toInt = aZ) (w : Int32) (wZ : Int) (wE : w.toInt = wZ) (wK : h.1 116 2 = w) (g : Int32) (gZ : Int) (gE : g.toInt = gZ) (gK : h.1 116 3 = g) (p : Int32) (pZ : Int) (pE : p.toInt = pZ) (pK : h.1 117 84 = p) (m : Int32) (mZ : Int) (mE : m.toInt = mZ) (mK : h.1 117 85 = m) : Ct y_Mod_show b_Mod_show 7 (some .int) 4 93 [.ref 116, .int c, .int o, .int n, .int a] h (q_Mod_showX h c cZ o oZ n nZ a aZ w wZ g gZ p pZ m mZ) := by
  refine ct_ow R_Mod [some (.ref 116), some (.int c), some (.int o), some (.int n), some (.int a), none, none] rfl (by decide) rfl (Nat.le_of_ble_eq_true rfl) ?_
  have f0 : fr S_Mod_showX h h := fr_rf
  have g1 : 2 ≤ wZ ∧ wZ ≤ 4 := inv_at hI wE wK.symm rfl
  have g2 : 2 ≤ gZ ∧ gZ ≤ 4 := inv_at hI gE gK.symm rfl
  have aB := And.intro (ti_lo a) (ti_hi a)
  rw [aE] at aB
  have m24 := mul24 (A := wZ) (B := gZ) (by omega) (by omega)
  refine V_aload_n 0 d_Mod_show_0 rfl rfl ?_
  refine V_iload_n 1 d_Mod_show_1 rfl rfl ?_
  refine N_callVI [.int c] [] cv_Mod_200 sk_116 rfl d_Mod_show_2 rfl (Nat.le_of_ble_eq_true rfl) (by decide) (by decide) (c_Mod_isCellX h hI c cZ cE w wZ wE wK g gZ gE gK) (fun z3 h4 z3Z z3E p5 => ?_)
  obtain ⟨eh4, p5⟩ := p5
  subst eh4
  refine V_if_eq 49 z3E d_Mod_show_5 (by decide) (fun c6 => ?_) (fun c6 => ?_)
  ·
    refine V_iconst (-1) d_Mod_show_49 (by decide) ?_
    exact V_iret rfl d_Mod_show_50 ⟨(-1), rfl, ⟨hI, f0, (Or.inr ⟨by omega, tc_m1⟩)⟩⟩
  ·
    refine V_iload_n 2 d_Mod_show_8 rfl rfl ?_
    refine N_callSI [.int o] [] cs_Mod_205 d_Mod_show_9 rfl (Nat.le_of_ble_eq_true rfl) (by decide) (by decide) (c_Mod_isOwner h o oZ oE) (fun z7 h8 z7Z z7E p9 => ?_)
    obtain ⟨eh8, p9⟩ := p9
    subst eh8
    refine V_if_eq 49 z7E d_Mod_show_12 (by decide) (fun c10 => ?_) (fun c10 => ?_)
    ·
      refine V_iconst (-1) d_Mod_show_49 (by decide) ?_
      exact V_iret rfl d_Mod_show_50 ⟨(-1), rfl, ⟨hI, f0, (Or.inr ⟨by omega, tc_m1⟩)⟩⟩
    ·
      refine V_iload_n 3 d_Mod_show_15 rfl rfl ?_
      refine V_i2l d_Mod_show_16 (fun z11 z11e z11E => ?_)
      have z11F : z11.toInt = nZ := z11E.trans nE
      refine V_lconst 1 d_Mod_show_17 (by decide) ?_
      refine V_ldc2 d_Mod_show_18 wl_Mod_253 ?_
      refine N_callSI [.long z11, .long 1, .long 6] [] cs_Mod_95 d_Mod_show_21 rfl (Nat.le_of_ble_eq_true rfl) (by decide) (by decide) (c_Mod_in h z11 nZ z11F 1 1 tl_1 6 6 tl_6) (fun z12 h13 z12Z z12E p14 => ?_)
      obtain ⟨eh13, p14⟩ := p14
      subst eh13
      refine V_if_eq 49 z12E d_Mod_show_24 (by decide) (fun c15 => ?_) (fun c15 => ?_)
      ·
        refine V_iconst (-1) d_Mod_show_49 (by decide) ?_
        exact V_iret rfl d_Mod_show_50 ⟨(-1), rfl, ⟨hI, f0, (Or.inr ⟨by omega, tc_m1⟩)⟩⟩
      ·
        refine V_iload d_Mod_show_27 rfl ?_
        refine V_if_eq 51 aE d_Mod_show_29 (by decide) (fun c16 => ?_) (fun c16 => ?_)
        ·
          refine V_aload_n 0 d_Mod_show_51 rfl rfl ?_
          refine V_iload_n 2 d_Mod_show_52 rfl rfl ?_
          refine V_iload_n 3 d_Mod_show_53 rfl rfl ?_
          refine N_callVV [.int o, .int n] [] cv_Mod_255 sk_116 rfl d_Mod_show_54 rfl (Nat.le_of_ble_eq_true rfl) (by decide) (by decide) (c_Mod_findShownX h hI o oZ oE n nZ nE w wZ wE wK g gZ gE gK p pZ pE pK m mZ mE mK (by omega)) (fun h18 p19 => ?_)
          obtain ⟨hI20, fh18, p19⟩ := p19
          have f21 : fr S_Mod_showX h h18 := fr_call f0 fh18 rfl
          have hvb := vv9_b (sv := svM h pZ mZ oZ) (W := wZ) (G := gZ) (n := nZ) (fun c s => svv_b _ _) (nZ - 1).toNat cZ.toNat
          have h122 : (h18.1 122 (16 + cZ).toNat).toInt = (vv9 (svM h pZ mZ oZ) wZ gZ nZ) (nZ - 1).toNat cZ.toNat := by have q9 := p19 1 (by omega) (by omega) cZ.toNat (by omega) (by omega); rw [show (16 + cZ).toNat = 16 * (1 : Int).toNat + cZ.toNat by omega]; exact q9
          refine V_iload d_Mod_show_57 rfl ?_
          refine V_if_ne 75 aE d_Mod_show_59 (by decide) (fun c22 => ?_) (fun c22 => ?_)
          ·
            refine V_iload_n 1 d_Mod_show_75 rfl rfl ?_
            refine V_istore 5 [some (.ref 116), some (.int c), some (.int o), some (.int n), some (.int a), some (.int c), none] d_Mod_show_76 (by decide) rfl rfl ?_
            refine V_iconst 0 d_Mod_show_78 (by decide) ?_
            refine V_istore 6 [some (.ref 116), some (.int c), some (.int o), some (.int n), some (.int a), some (.int c), some (.int 0)] d_Mod_show_79 (by decide) rfl rfl ?_
            have L23 : ∀ (nn : Nat) (v25 : Int32) (v25Z : Int) (v26 : Int32) (v26Z : Int), v25.toInt = v25Z → v26.toInt = v26Z → 0 ≤ v26Z ∧ v26Z ≤ aZ - 10 → v25Z = (pth (vv9 (svM h pZ mZ oZ) wZ gZ nZ) wZ gZ nZ cZ) (v26Z).toNat → aZ - 10 - v26Z < (nn : Int) → V R_Mod b_Mod_show 7 (some .int) 4 93 (q_Mod_showX h c cZ o oZ n nZ a aZ w wZ g gZ p pZ m mZ) h18 81 [some (.ref 116), some (.int c), some (.int o), some (.int n), some (.int a), some (.int v25), some (.int v26)] [] := by
              intro nn
              induction nn with
              | zero => intro v25 v25Z v26 v26Z v25E v26E q27 q28 hm29; exact absurd hm29 (by omega)
              | succ nn ihL23 =>
                intro v25 v25Z v26 v26Z v25E v26E q27 q28 hm29
                refine V_iload d_Mod_show_81 rfl ?_
                refine V_iload d_Mod_show_83 rfl ?_
                refine V_bipush 10 d_Mod_show_85 (by decide) ?_
                refine V_isub aE tc_10 (by omega) d_Mod_show_87 (fun z30 z30e z30E => ?_)
                refine V_icmp_ge 109 v26E z30E d_Mod_show_88 (by decide) (fun c31 => ?_) (fun c31 => ?_)
                ·
                  refine V_iload d_Mod_show_109 rfl ?_
                  exact V_iret rfl d_Mod_show_111 ⟨v25, rfl, ⟨hI20, f21, (Or.inl ⟨by omega, by unfold SWr; rw [if_neg (by omega), v25E, show (aZ - 10).toNat = (v26Z).toNat by omega]; assumption⟩)⟩⟩
                ·
                  have hpb := pth_b (v := (vv9 (svM h pZ mZ oZ) wZ gZ nZ)) (W := wZ) (G := gZ) (n := nZ) (c := cZ) (by omega) (by omega) (by omega) (v26Z).toNat
                  have hp6 : v25Z = (pth (vv9 (svM h pZ mZ oZ) wZ gZ nZ) wZ gZ nZ cZ) (v26Z).toNat := by assumption
                  rw [← hp6] at hpb
                  refine V_aload_n 0 d_Mod_show_91 rfl rfl ?_
                  refine V_iload d_Mod_show_92 rfl ?_
                  refine V_iload d_Mod_show_94 rfl ?_
                  refine V_iconst 2 d_Mod_show_96 (by decide) ?_
                  refine V_iadd v26E tc_2 (by omega) d_Mod_show_97 (fun z32 z32e z32E => ?_)
                  refine N_callVI [.int v25, .int z32] [] cv_Mod_246 sk_116 rfl d_Mod_show_98 rfl (Nat.le_of_ble_eq_true rfl) (by decide) (by decide) (c_Mod_bestBesideX h18 hI20 v25 v25Z v25E z32 ((v26Z + 2)) z32E w wZ wE (kn_call fh18 wK rfl) g gZ gE (kn_call fh18 gK rfl) (by omega) (by omega)) (fun z33 h34 z33Z z33E p35 => ?_)
                  obtain ⟨eh34, p35⟩ := p35
                  subst eh34
                  have hx7 : z33Z = (pth (vv9 (svM h pZ mZ oZ) wZ gZ nZ) wZ gZ nZ cZ) (v26Z + 1).toNat := by rw [pth_s (by omega), show v26Z + 1 - 1 = v26Z by omega, ← hp6, ← z33E, p35]; exact bbN_cg (by omega) (by omega) (by omega) (fun i hi => by have q9 := p19 (v26Z + 2) (by omega) (by omega) i (by omega) hi; rw [show nZ - (v26Z + 2) = nZ - 1 - (v26Z + 1) by omega] at q9; exact q9) 4 (by omega)
                  refine V_istore 5 [some (.ref 116), some (.int c), some (.int o), some (.int n), some (.int a), some (.int z33), some (.int v26)] d_Mod_show_101 (by decide) rfl rfl ?_
                  obtain ⟨z36, z36E, z36e⟩ : ∃ y : Int32, y.toInt = v26Z + 1 ∧ y = v26 + Int32.ofInt 1 := ⟨_, ti_add v26E (by decide) (by omega), rfl⟩
                  refine V_iinc 6 [some (.ref 116), some (.int c), some (.int o), some (.int n), some (.int a), some (.int z33), some (.int z36)] d_Mod_show_103 rfl z36e.symm (by decide) rfl rfl ?_
                  refine V_goto 81 d_Mod_show_106 (by decide) ?_
                  exact ihL23 z33 z33Z z36 ((v26Z + 1)) z33E z36E (by omega) hx7 (by omega)
            exact L23 (Int.toNat ((aZ - 10 - 0 : Int) + 1)) c cZ 0 0 cE tc_0 (by omega) rfl (by omega)
          ·
            refine V_bipush 10 d_Mod_show_62 (by decide) ?_
            refine V_aload_n 0 d_Mod_show_64 rfl rfl ?_
            refine V_getR fa_Mod_26 sk_116 rfl d_Mod_show_65 ?_
            refine V_bipush 16 d_Mod_show_68 (by decide) ?_
            refine V_iload_n 1 d_Mod_show_70 rfl rfl ?_
            refine V_iadd tc_16 cE (by omega) d_Mod_show_71 (fun z37 z37e z37E => ?_)
            refine N_iald sk_122 z37E (by omega) d_Mod_show_72 (fun z38 z38Z z38E z38e => ?_)
            rw [← z38e, z38E] at h122
            rw [← h122] at hvb
            refine V_iadd tc_10 z38E (by omega) d_Mod_show_73 (fun z39 z39e z39E => ?_)
            exact V_iret rfl d_Mod_show_74 ⟨z39, rfl, ⟨hI20, f21, (Or.inl ⟨by omega, by unfold SWr; rw [if_pos (by omega), z39E, h122]⟩)⟩⟩
        ·
          refine V_iload d_Mod_show_32 rfl ?_
          refine V_bipush 10 d_Mod_show_34 (by decide) ?_
          refine N_isubw d_Mod_show_36 (fun z40 z40Z z40E z40e => ?_)
          have g41 := subw_ti aE tc_10 z40e z40E
          refine V_i2l d_Mod_show_37 (fun z42 z42e z42E => ?_)
          have z42F : z42.toInt = z40Z := z42E.trans z40E
          refine V_lconst 0 d_Mod_show_38 (by decide) ?_
          refine V_iload_n 3 d_Mod_show_39 rfl rfl ?_
          refine V_iconst 1 d_Mod_show_40 (by decide) ?_
          refine V_isub nE tc_1 (by omega) d_Mod_show_41 (fun z43 z43e z43E => ?_)
          refine V_i2l d_Mod_show_42 (fun z44 z44e z44E => ?_)
          have z44F : z44.toInt = (nZ - 1) := z44E.trans z43E
          refine N_callSI [.long z42, .long 0, .long z44] [] cs_Mod_95 d_Mod_show_43 rfl (Nat.le_of_ble_eq_true rfl) (by decide) (by decide) (c_Mod_in h z42 z40Z z42F 0 0 tl_0 z44 ((nZ - 1)) z44F) (fun z45 h46 z45Z z45E p47 => ?_)
          obtain ⟨eh46, p47⟩ := p47
          subst eh46
          refine V_if_ne 51 z45E d_Mod_show_46 (by decide) (fun c48 => ?_) (fun c48 => ?_)
          ·
            refine V_aload_n 0 d_Mod_show_51 rfl rfl ?_
            refine V_iload_n 2 d_Mod_show_52 rfl rfl ?_
            refine V_iload_n 3 d_Mod_show_53 rfl rfl ?_
            refine N_callVV [.int o, .int n] [] cv_Mod_255 sk_116 rfl d_Mod_show_54 rfl (Nat.le_of_ble_eq_true rfl) (by decide) (by decide) (c_Mod_findShownX h hI o oZ oE n nZ nE w wZ wE wK g gZ gE gK p pZ pE pK m mZ mE mK (by omega)) (fun h50 p51 => ?_)
            obtain ⟨hI52, fh50, p51⟩ := p51
            have f53 : fr S_Mod_showX h h50 := fr_call f0 fh50 rfl
            have hvb := vv9_b (sv := svM h pZ mZ oZ) (W := wZ) (G := gZ) (n := nZ) (fun c s => svv_b _ _) (nZ - 1).toNat cZ.toNat
            have h122 : (h50.1 122 (16 + cZ).toNat).toInt = (vv9 (svM h pZ mZ oZ) wZ gZ nZ) (nZ - 1).toNat cZ.toNat := by have q9 := p51 1 (by omega) (by omega) cZ.toNat (by omega) (by omega); rw [show (16 + cZ).toNat = 16 * (1 : Int).toNat + cZ.toNat by omega]; exact q9
            refine V_iload d_Mod_show_57 rfl ?_
            refine V_if_ne 75 aE d_Mod_show_59 (by decide) (fun c54 => ?_) (fun c54 => ?_)
            ·
              refine V_iload_n 1 d_Mod_show_75 rfl rfl ?_
              refine V_istore 5 [some (.ref 116), some (.int c), some (.int o), some (.int n), some (.int a), some (.int c), none] d_Mod_show_76 (by decide) rfl rfl ?_
              refine V_iconst 0 d_Mod_show_78 (by decide) ?_
              refine V_istore 6 [some (.ref 116), some (.int c), some (.int o), some (.int n), some (.int a), some (.int c), some (.int 0)] d_Mod_show_79 (by decide) rfl rfl ?_
              have L55 : ∀ (nn : Nat) (v57 : Int32) (v57Z : Int) (v58 : Int32) (v58Z : Int), v57.toInt = v57Z → v58.toInt = v58Z → 0 ≤ v58Z ∧ v58Z ≤ aZ - 10 → v57Z = (pth (vv9 (svM h pZ mZ oZ) wZ gZ nZ) wZ gZ nZ cZ) (v58Z).toNat → aZ - 10 - v58Z < (nn : Int) → V R_Mod b_Mod_show 7 (some .int) 4 93 (q_Mod_showX h c cZ o oZ n nZ a aZ w wZ g gZ p pZ m mZ) h50 81 [some (.ref 116), some (.int c), some (.int o), some (.int n), some (.int a), some (.int v57), some (.int v58)] [] := by
                intro nn
                induction nn with
                | zero => intro v57 v57Z v58 v58Z v57E v58E q59 q60 hm61; exact absurd hm61 (by omega)
                | succ nn ihL55 =>
                  intro v57 v57Z v58 v58Z v57E v58E q59 q60 hm61
                  refine V_iload d_Mod_show_81 rfl ?_
                  refine V_iload d_Mod_show_83 rfl ?_
                  refine V_bipush 10 d_Mod_show_85 (by decide) ?_
                  refine V_isub aE tc_10 (by omega) d_Mod_show_87 (fun z62 z62e z62E => ?_)
                  refine V_icmp_ge 109 v58E z62E d_Mod_show_88 (by decide) (fun c63 => ?_) (fun c63 => ?_)
                  ·
                    refine V_iload d_Mod_show_109 rfl ?_
                    exact V_iret rfl d_Mod_show_111 ⟨v57, rfl, ⟨hI52, f53, (Or.inl ⟨by omega, by unfold SWr; rw [if_neg (by omega), v57E, show (aZ - 10).toNat = (v58Z).toNat by omega]; assumption⟩)⟩⟩
                  ·
                    have hpb := pth_b (v := (vv9 (svM h pZ mZ oZ) wZ gZ nZ)) (W := wZ) (G := gZ) (n := nZ) (c := cZ) (by omega) (by omega) (by omega) (v58Z).toNat
                    have hp6 : v57Z = (pth (vv9 (svM h pZ mZ oZ) wZ gZ nZ) wZ gZ nZ cZ) (v58Z).toNat := by assumption
                    rw [← hp6] at hpb
                    refine V_aload_n 0 d_Mod_show_91 rfl rfl ?_
                    refine V_iload d_Mod_show_92 rfl ?_
                    refine V_iload d_Mod_show_94 rfl ?_
                    refine V_iconst 2 d_Mod_show_96 (by decide) ?_
                    refine V_iadd v58E tc_2 (by omega) d_Mod_show_97 (fun z64 z64e z64E => ?_)
                    refine N_callVI [.int v57, .int z64] [] cv_Mod_246 sk_116 rfl d_Mod_show_98 rfl (Nat.le_of_ble_eq_true rfl) (by decide) (by decide) (c_Mod_bestBesideX h50 hI52 v57 v57Z v57E z64 ((v58Z + 2)) z64E w wZ wE (kn_call fh50 wK rfl) g gZ gE (kn_call fh50 gK rfl) (by omega) (by omega)) (fun z65 h66 z65Z z65E p67 => ?_)
                    obtain ⟨eh66, p67⟩ := p67
                    subst eh66
                    have hx7 : z65Z = (pth (vv9 (svM h pZ mZ oZ) wZ gZ nZ) wZ gZ nZ cZ) (v58Z + 1).toNat := by rw [pth_s (by omega), show v58Z + 1 - 1 = v58Z by omega, ← hp6, ← z65E, p67]; exact bbN_cg (by omega) (by omega) (by omega) (fun i hi => by have q9 := p51 (v58Z + 2) (by omega) (by omega) i (by omega) hi; rw [show nZ - (v58Z + 2) = nZ - 1 - (v58Z + 1) by omega] at q9; exact q9) 4 (by omega)
                    refine V_istore 5 [some (.ref 116), some (.int c), some (.int o), some (.int n), some (.int a), some (.int z65), some (.int v58)] d_Mod_show_101 (by decide) rfl rfl ?_
                    obtain ⟨z68, z68E, z68e⟩ : ∃ y : Int32, y.toInt = v58Z + 1 ∧ y = v58 + Int32.ofInt 1 := ⟨_, ti_add v58E (by decide) (by omega), rfl⟩
                    refine V_iinc 6 [some (.ref 116), some (.int c), some (.int o), some (.int n), some (.int a), some (.int z65), some (.int z68)] d_Mod_show_103 rfl z68e.symm (by decide) rfl rfl ?_
                    refine V_goto 81 d_Mod_show_106 (by decide) ?_
                    exact ihL55 z65 z65Z z68 ((v58Z + 1)) z65E z68E (by omega) hx7 (by omega)
              exact L55 (Int.toNat ((aZ - 10 - 0 : Int) + 1)) c cZ 0 0 cE tc_0 (by omega) rfl (by omega)
            ·
              refine V_bipush 10 d_Mod_show_62 (by decide) ?_
              refine V_aload_n 0 d_Mod_show_64 rfl rfl ?_
              refine V_getR fa_Mod_26 sk_116 rfl d_Mod_show_65 ?_
              refine V_bipush 16 d_Mod_show_68 (by decide) ?_
              refine V_iload_n 1 d_Mod_show_70 rfl rfl ?_
              refine V_iadd tc_16 cE (by omega) d_Mod_show_71 (fun z69 z69e z69E => ?_)
              refine N_iald sk_122 z69E (by omega) d_Mod_show_72 (fun z70 z70Z z70E z70e => ?_)
              rw [← z70e, z70E] at h122
              rw [← h122] at hvb
              refine V_iadd tc_10 z70E (by omega) d_Mod_show_73 (fun z71 z71e z71E => ?_)
              exact V_iret rfl d_Mod_show_74 ⟨z71, rfl, ⟨hI52, f53, (Or.inl ⟨by omega, by unfold SWr; rw [if_pos (by omega), z71E, h122]⟩)⟩⟩
          ·
            refine V_iconst (-1) d_Mod_show_49 (by decide) ?_
            exact V_iret rfl d_Mod_show_50 ⟨(-1), rfl, ⟨hI, f0, (Or.inr ⟨by omega, tc_m1⟩)⟩⟩
