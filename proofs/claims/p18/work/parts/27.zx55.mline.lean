def S_Mod_readLineX : List (Nat × Option Nat) := [(116, some 16), (116, some 17), (116, some 18), (116, some 19), (116, some 20), (116, some 21), (119, none), (120, none), (116, some 7), (116, some 8), (116, some 9), (116, some 10), (116, some 11), (116, some 13)]
abbrev q_Mod_readLineX (h : Hp) (b : Int → Int) (T : Nat → Int → Int) (D : Nat → Int) (p0 : Int) (s : Int32) (sZ : Int) (p : Int32) (pZ : Int) (g : Int32) (gZ : Int) (k : Int32) (kZ : Int) (v : Int32) (vZ : Int) (w : Int32) (wZ : Int) (a : Int32) (aZ : Int) (o : Int32) (oZ : Int) (m : Int32) (mZ : Int) : Option Value → Hp → Prop := pVd (fun h' => Inv h' ∧ fr S_Mod_readLineX h h' ∧ ∃ (q : Int32) (qZ : Int), q.toInt = qZ ∧ h'.1 116 16 = q ∧ ∃ (f : Int32) (fZ : Int), f.toInt = fZ ∧ h'.1 116 17 = f ∧ ∃ (m : Int32) (mZ : Int), m.toInt = mZ ∧ h'.1 116 18 = m ∧ ∃ (x : Int32) (xZ : Int), x.toInt = xZ ∧ h'.1 116 19 = x ∧ ∃ (u : Int32) (uZ : Int), u.toInt = uZ ∧ h'.1 116 20 = u ∧ ∃ (y : Int32) (yZ : Int), y.toInt = yZ ∧ h'.1 116 21 = y ∧ ((uZ ≠ 0 ∧ x_line b T (D 86) p0 = (uZ, yZ) ∨ ∃ e : Int, x_line b T (D 86) p0 = (0, e) ∧ pZ < e ∧ e ≤ sZ ∧ RM h' (x_T b T p0) (x_D b D p0) ∧ (uZ = 1 ∧ x_kd b e = 4 ∧ yZ = x_fr b e ∨ uZ = 0 ∧ fZ = x_fr b e ∧ mZ = x_kd b e ∧ mZ ≠ 4 ∧ 0 ≤ mZ ∧ mZ ≤ 3 ∧ qZ = x_en b e ∧ (mZ ≠ 2 ∨ xZ = x_vl b e ∧ 0 ≤ xZ ∧ xZ ≤ 99) ∧ e ≤ fZ ∧ fZ ≤ qZ ∧ qZ ≤ sZ ∧ (mZ = 0 ∨ fZ < qZ))) ∧ 0 ≤ qZ ∧ qZ ≤ sZ ∧ 0 ≤ uZ))
set_option maxHeartbeats 16000000 in
set_option maxRecDepth 100000 in
theorem c_Mod_readLineX (h : Hp) (b : Int → Int) (T : Nat → Int → Int) (D : Nat → Int) (p0 : Int) (hI : Inv h) (s : Int32) (sZ : Int) (sE : s.toInt = sZ) (sK : h.1 116 15 = s) (p : Int32) (pZ : Int) (pE : p.toInt = pZ) (pK : h.1 116 16 = p) (g : Int32) (gZ : Int) (gE : g.toInt = gZ) (gK : h.1 116 17 = g) (k : Int32) (kZ : Int) (kE : k.toInt = kZ) (kK : h.1 116 18 = k) (v : Int32) (vZ : Int) (vE : v.toInt = vZ) (vK : h.1 116 19 = v) (w : Int32) (wZ : Int) (wE : w.toInt = wZ) (wK : h.1 116 20 = w) (a : Int32) (aZ : Int) (aE : a.toInt = aZ) (aK : h.1 116 21 = a) (o : Int32) (oZ : Int) (oE : o.toInt = oZ) (oK : h.1 116 11 = o) (m : Int32) (mZ : Int) (mE : m.toInt = mZ) (mK : h.1 119 86 = m) (hy0 : TP h 121 sZ b) (hy1 : 0 ≤ pZ ∧ pZ ≤ sZ ∧ wZ = 0) (hy2 : gZ = x_fr b p0 ∧ kZ = x_kd b p0 ∧ kZ ≠ 4 ∧ 0 ≤ kZ ∧ kZ ≤ 3 ∧ pZ = x_en b p0 ∧ (kZ ≠ 2 ∨ vZ = x_vl b p0 ∧ 0 ≤ vZ ∧ vZ ≤ 99) ∧ p0 ≤ gZ ∧ gZ ≤ pZ ∧ pZ ≤ sZ ∧ (kZ = 0 ∨ gZ < pZ)) (hy3 : RM h T D) : Ct y_Mod_readLine b_Mod_readLine 2 none 5 116 [.ref 116] h (q_Mod_readLineX h b T D p0 s sZ p pZ g gZ k kZ v vZ w wZ a aZ o oZ m mZ) := by
  refine ct_ow R_Mod [some (.ref 116), none] rfl (by decide) rfl (Nat.le_of_ble_eq_true rfl) ?_
  have f0 : fr S_Mod_readLineX h h := fr_rf
  have g1 : 0 ≤ sZ ∧ sZ ≤ 160 := inv_at hI sE sK.symm rfl
  have g2 : 0 ≤ pZ ∧ pZ ≤ 160 := inv_at hI pE pK.symm rfl
  have g3 : 0 ≤ gZ ∧ gZ ≤ 160 := inv_at hI gE gK.symm rfl
  have g4 := RM_many hy3 mK mE
  refine V_aload_n 0 d_Mod_readLine_0 rfl rfl ?_
  refine N_getK fa_Mod_130 sk_116 rfl d_Mod_readLine_1 kK ?_
  refine V_iconst 1 d_Mod_readLine_4 (by decide) ?_
  refine V_icmp_ne 15 kE tc_1 d_Mod_readLine_5 (by decide) (fun c5 => ?_) (fun c5 => ?_)
  ·
    refine V_bipush (-4) d_Mod_readLine_15 (by decide) ?_
    refine V_istore_n 1 [some (.ref 116), some (.int (-4))] d_Mod_readLine_17 rfl (by decide) rfl rfl ?_
    refine V_aload_n 0 d_Mod_readLine_18 rfl rfl ?_
    refine V_iload_n 1 d_Mod_readLine_19 rfl rfl ?_
    refine V_bipush (-4) d_Mod_readLine_20 (by decide) ?_
    refine V_icmp_eq 29 tc_m4 tc_m4 d_Mod_readLine_22 (by decide) (fun c6 => ?_) (fun c6 => ?_)
    ·
      refine V_iconst 0 d_Mod_readLine_29 (by decide) ?_
      refine V_iconst 2 d_Mod_readLine_30 (by decide) ?_
      refine N_callVV [.int 0, .int 2] [] cv_Mod_144 sk_116 rfl d_Mod_readLine_31 rfl (Nat.le_of_ble_eq_true rfl) (by decide) (by decide) (c_Mod_needsX h hI 0 0 tc_0 2 2 tc_2 g gZ gE gK w wZ wE wK a aZ aE aK) (fun h8 p9 => ?_)
      obtain ⟨hI10, fh8, o12, o12Z, o12E, o12K, o13, o13Z, o13E, o13K, p9⟩ := p9
      have f11 : fr S_Mod_readLineX h h8 := fr_call f0 fh8 rfl
      refine V_aload_n 0 d_Mod_readLine_34 rfl rfl ?_
      refine V_iload_n 1 d_Mod_readLine_35 rfl rfl ?_
      refine V_bipush 9 d_Mod_readLine_36 (by decide) ?_
      refine V_icmp_ne 53 tc_m4 tc_9 d_Mod_readLine_38 (by decide) (fun c14 => ?_) (fun c14 => ?_)
      ·
        refine V_iconst 1 d_Mod_readLine_53 (by decide) ?_
        refine V_goto 58 d_Mod_readLine_54 (by decide) ?_
        refine V_iconst 5 d_Mod_readLine_58 (by decide) ?_
        refine N_callVV [.int 1, .int 5] [] cv_Mod_144 sk_116 rfl d_Mod_readLine_59 rfl (Nat.le_of_ble_eq_true rfl) (by decide) (by decide) (c_Mod_needsX h8 hI10 1 1 tc_1 5 5 tc_5 g gZ gE (kn_call fh8 gK rfl) o12 o12Z o12E o12K o13 o13Z o13E o13K) (fun h16 p17 => ?_)
        obtain ⟨hI18, fh16, o20, o20Z, o20E, o20K, o21, o21Z, o21E, o21K, p17⟩ := p17
        have f19 : fr S_Mod_readLineX h h16 := fr_call f11 fh16 rfl
        refine V_aload_n 0 d_Mod_readLine_62 rfl rfl ?_
        refine N_getK fa_Mod_102 sk_116 rfl d_Mod_readLine_63 o20K ?_
        refine V_if_ne 107 o20E d_Mod_readLine_66 (by decide) (fun c22 => ?_) (fun c22 => ?_)
        ·
          have g23 : x_fr b pZ = x_fr b (x_en b p0) := congrArg (x_fr b) (by omega)
          have g24 : x_kd b pZ = x_kd b (x_en b p0) := congrArg (x_kd b) (by omega)
          have g25 : x_en b pZ = x_en b (x_en b p0) := congrArg (x_en b) (by omega)
          have g26 : x_vl b pZ = x_vl b (x_en b p0) := congrArg (x_vl b) (by omega)
          refine V_aload_n 0 d_Mod_readLine_107 rfl rfl ?_
          refine N_callVV [] [] cv_Mod_152 sk_116 rfl d_Mod_readLine_108 rfl (Nat.le_of_ble_eq_true rfl) (by decide) (by decide) (c_Mod_nextX h16 b hI18 s sZ sE (kn_call fh16 (kn_call fh8 sK rfl) rfl) p pZ pE (kn_call fh16 (kn_call fh8 pK rfl) rfl) g gZ gE (kn_call fh16 (kn_call fh8 gK rfl) rfl) k kZ kE (kn_call fh16 (kn_call fh8 kK rfl) rfl) v vZ vE (kn_call fh16 (kn_call fh8 vK rfl) rfl) o20 o20Z o20E o20K o21 o21Z o21E o21K (TP_fr f19 (fun _ => rfl) hy0) (by omega)) (fun h28 p29 => ?_)
          obtain ⟨hI30, fh28, o32, o32Z, o32E, o32K, o33, o33Z, o33E, o33K, o34, o34Z, o34E, o34K, o35, o35Z, o35E, o35K, o36, o36Z, o36E, o36K, o37, o37Z, o37E, o37K, p29⟩ := p29
          have f31 : fr S_Mod_readLineX h h28 := fr_call f19 fh28 rfl
          have g38 : 0 ≤ o32Z ∧ o32Z ≤ 160 := inv_at hI30 o32E o32K.symm rfl
          have g39 : 0 ≤ o33Z ∧ o33Z ≤ 160 := inv_at hI30 o33E o33K.symm rfl
          refine V_aload_n 0 d_Mod_readLine_111 rfl rfl ?_
          refine N_getK fa_Mod_102 sk_116 rfl d_Mod_readLine_112 o36K ?_
          refine V_if_le 119 o36E d_Mod_readLine_115 (by decide) (fun c40 => ?_) (fun c40 => ?_)
          ·
            exact absurd c40 (by omega)
          ·
            exact V_vret rfl d_Mod_readLine_118 ⟨rfl, ⟨hI30, f31, o32, o32Z, o32E, o32K, o33, o33Z, o33E, o33K, o34, o34Z, o34E, o34K, o35, o35Z, o35E, o35K, o36, o36Z, o36E, o36K, o37, o37Z, o37E, o37K, ⟨Or.inl ⟨by omega, (by have q := x_cH_s b T (D 86) p0; exact (x_line_H (by omega)).trans (pq (by omega) (by omega)))⟩, by omega, by omega, by omega⟩⟩⟩
        ·
          exact absurd c22 (by omega)
      ·
        exact absurd c14 (by decide)
    ·
      exact absurd c6 (by decide)
  ·
    refine V_aload_n 0 d_Mod_readLine_8 rfl rfl ?_
    refine N_callVI [] [] cv_Mod_174 sk_116 rfl d_Mod_readLine_9 rfl (Nat.le_of_ble_eq_true rfl) (by decide) (by decide) (c_Mod_lineNowX h b hI s sZ sE sK p pZ pE pK g gZ gE gK (TP_fr f0 (fun _ => rfl) hy0) (by omega) (by omega)) (fun z41 h42 z41Z z41E p43 => ?_)
    obtain ⟨eh42, p43⟩ := p43
    subst eh42
    have hX : x_li b p0 = x_ln b gZ pZ := by unfold x_li; rw [show x_fr b p0 = gZ by omega, show x_en b p0 = pZ by omega]
    refine V_goto 17 d_Mod_readLine_12 (by decide) ?_
    refine V_istore_n 1 [some (.ref 116), some (.int z41)] d_Mod_readLine_17 rfl (by decide) rfl rfl ?_
    rcases (by omega : z41Z = (-4) ∨ z41Z = 0 ∨ z41Z = 1 ∨ z41Z = 2 ∨ z41Z = 3 ∨ z41Z = 4 ∨ z41Z = 5 ∨ z41Z = 6 ∨ z41Z = 7 ∨ z41Z = 8 ∨ z41Z = 9) with c44 | c44 | c44 | c44 | c44 | c44 | c44 | c44 | c44 | c44 | c44
    ·
      obtain rfl : z41 = (-4) := (ti_eq z41E tc_m4).mpr c44
      subst c44
      have hL : x_li b p0 = -1 := by omega
      clear p43
      refine V_aload_n 0 d_Mod_readLine_18 rfl rfl ?_
      refine V_iload_n 1 d_Mod_readLine_19 rfl rfl ?_
      refine V_bipush (-4) d_Mod_readLine_20 (by decide) ?_
      refine V_icmp_eq 29 tc_m4 tc_m4 d_Mod_readLine_22 (by decide) (fun c45 => ?_) (fun c45 => ?_)
      ·
        refine V_iconst 0 d_Mod_readLine_29 (by decide) ?_
        refine V_iconst 2 d_Mod_readLine_30 (by decide) ?_
        refine N_callVV [.int 0, .int 2] [] cv_Mod_144 sk_116 rfl d_Mod_readLine_31 rfl (Nat.le_of_ble_eq_true rfl) (by decide) (by decide) (c_Mod_needsX h hI 0 0 tc_0 2 2 tc_2 g gZ gE gK w wZ wE wK a aZ aE aK) (fun h47 p48 => ?_)
        obtain ⟨hI49, fh47, o51, o51Z, o51E, o51K, o52, o52Z, o52E, o52K, p48⟩ := p48
        have f50 : fr S_Mod_readLineX h h47 := fr_call f0 fh47 rfl
        refine V_aload_n 0 d_Mod_readLine_34 rfl rfl ?_
        refine V_iload_n 1 d_Mod_readLine_35 rfl rfl ?_
        refine V_bipush 9 d_Mod_readLine_36 (by decide) ?_
        refine V_icmp_ne 53 tc_m4 tc_9 d_Mod_readLine_38 (by decide) (fun c53 => ?_) (fun c53 => ?_)
        ·
          refine V_iconst 1 d_Mod_readLine_53 (by decide) ?_
          refine V_goto 58 d_Mod_readLine_54 (by decide) ?_
          refine V_iconst 5 d_Mod_readLine_58 (by decide) ?_
          refine N_callVV [.int 1, .int 5] [] cv_Mod_144 sk_116 rfl d_Mod_readLine_59 rfl (Nat.le_of_ble_eq_true rfl) (by decide) (by decide) (c_Mod_needsX h47 hI49 1 1 tc_1 5 5 tc_5 g gZ gE (kn_call fh47 gK rfl) o51 o51Z o51E o51K o52 o52Z o52E o52K) (fun h55 p56 => ?_)
          obtain ⟨hI57, fh55, o59, o59Z, o59E, o59K, o60, o60Z, o60E, o60K, p56⟩ := p56
          have f58 : fr S_Mod_readLineX h h55 := fr_call f50 fh55 rfl
          refine V_aload_n 0 d_Mod_readLine_62 rfl rfl ?_
          refine N_getK fa_Mod_102 sk_116 rfl d_Mod_readLine_63 o59K ?_
          refine V_if_ne 107 o59E d_Mod_readLine_66 (by decide) (fun c61 => ?_) (fun c61 => ?_)
          ·
            have g62 : x_fr b pZ = x_fr b (x_en b p0) := congrArg (x_fr b) (by omega)
            have g63 : x_kd b pZ = x_kd b (x_en b p0) := congrArg (x_kd b) (by omega)
            have g64 : x_en b pZ = x_en b (x_en b p0) := congrArg (x_en b) (by omega)
            have g65 : x_vl b pZ = x_vl b (x_en b p0) := congrArg (x_vl b) (by omega)
            refine V_aload_n 0 d_Mod_readLine_107 rfl rfl ?_
            refine N_callVV [] [] cv_Mod_152 sk_116 rfl d_Mod_readLine_108 rfl (Nat.le_of_ble_eq_true rfl) (by decide) (by decide) (c_Mod_nextX h55 b hI57 s sZ sE (kn_call fh55 (kn_call fh47 sK rfl) rfl) p pZ pE (kn_call fh55 (kn_call fh47 pK rfl) rfl) g gZ gE (kn_call fh55 (kn_call fh47 gK rfl) rfl) k kZ kE (kn_call fh55 (kn_call fh47 kK rfl) rfl) v vZ vE (kn_call fh55 (kn_call fh47 vK rfl) rfl) o59 o59Z o59E o59K o60 o60Z o60E o60K (TP_fr f58 (fun _ => rfl) hy0) (by omega)) (fun h67 p68 => ?_)
            obtain ⟨hI69, fh67, o71, o71Z, o71E, o71K, o72, o72Z, o72E, o72K, o73, o73Z, o73E, o73K, o74, o74Z, o74E, o74K, o75, o75Z, o75E, o75K, o76, o76Z, o76E, o76K, p68⟩ := p68
            have f70 : fr S_Mod_readLineX h h67 := fr_call f58 fh67 rfl
            have g77 : 0 ≤ o71Z ∧ o71Z ≤ 160 := inv_at hI69 o71E o71K.symm rfl
            have g78 : 0 ≤ o72Z ∧ o72Z ≤ 160 := inv_at hI69 o72E o72K.symm rfl
            refine V_aload_n 0 d_Mod_readLine_111 rfl rfl ?_
            refine N_getK fa_Mod_102 sk_116 rfl d_Mod_readLine_112 o75K ?_
            refine V_if_le 119 o75E d_Mod_readLine_115 (by decide) (fun c79 => ?_) (fun c79 => ?_)
            ·
              exact absurd c79 (by omega)
            ·
              exact V_vret rfl d_Mod_readLine_118 ⟨rfl, ⟨hI69, f70, o71, o71Z, o71E, o71K, o72, o72Z, o72E, o72K, o73, o73Z, o73E, o73K, o74, o74Z, o74E, o74K, o75, o75Z, o75E, o75K, o76, o76Z, o76E, o76K, ⟨Or.inl ⟨by omega, (by have q := x_cH_s b T (D 86) p0; exact (x_line_H (by omega)).trans (pq (by omega) (by omega)))⟩, by omega, by omega, by omega⟩⟩⟩
          ·
            exact absurd c61 (by omega)
        ·
          exact absurd c53 (by decide)
      ·
        exact absurd c45 (by decide)
    ·
      obtain rfl : z41 = 0 := (ti_eq z41E tc_0).mpr c44
      subst c44
      have hL : x_li b p0 = 0 := by omega
      clear p43
      refine V_aload_n 0 d_Mod_readLine_18 rfl rfl ?_
      refine V_iload_n 1 d_Mod_readLine_19 rfl rfl ?_
      refine V_bipush (-4) d_Mod_readLine_20 (by decide) ?_
      refine V_icmp_eq 29 tc_0 tc_m4 d_Mod_readLine_22 (by decide) (fun c80 => ?_) (fun c80 => ?_)
      ·
        exact absurd c80 (by decide)
      ·
        refine V_iconst 1 d_Mod_readLine_25 (by decide) ?_
        refine V_goto 30 d_Mod_readLine_26 (by decide) ?_
        refine V_iconst 2 d_Mod_readLine_30 (by decide) ?_
        refine N_callVV [.int 1, .int 2] [] cv_Mod_144 sk_116 rfl d_Mod_readLine_31 rfl (Nat.le_of_ble_eq_true rfl) (by decide) (by decide) (c_Mod_needsX h hI 1 1 tc_1 2 2 tc_2 g gZ gE gK w wZ wE wK a aZ aE aK) (fun h82 p83 => ?_)
        obtain ⟨hI84, fh82, o86, o86Z, o86E, o86K, o87, o87Z, o87E, o87K, p83⟩ := p83
        have f85 : fr S_Mod_readLineX h h82 := fr_call f0 fh82 rfl
        have R88 : RM h82 T D := RM_fr fh82 rfl hy3
        refine V_aload_n 0 d_Mod_readLine_34 rfl rfl ?_
        refine V_iload_n 1 d_Mod_readLine_35 rfl rfl ?_
        refine V_bipush 9 d_Mod_readLine_36 (by decide) ?_
        refine V_icmp_ne 53 tc_0 tc_9 d_Mod_readLine_38 (by decide) (fun c89 => ?_) (fun c89 => ?_)
        ·
          refine V_iconst 1 d_Mod_readLine_53 (by decide) ?_
          refine V_goto 58 d_Mod_readLine_54 (by decide) ?_
          refine V_iconst 5 d_Mod_readLine_58 (by decide) ?_
          refine N_callVV [.int 1, .int 5] [] cv_Mod_144 sk_116 rfl d_Mod_readLine_59 rfl (Nat.le_of_ble_eq_true rfl) (by decide) (by decide) (c_Mod_needsX h82 hI84 1 1 tc_1 5 5 tc_5 g gZ gE (kn_call fh82 gK rfl) o86 o86Z o86E o86K o87 o87Z o87E o87K) (fun h91 p92 => ?_)
          obtain ⟨hI93, fh91, o95, o95Z, o95E, o95K, o96, o96Z, o96E, o96K, p92⟩ := p92
          have f94 : fr S_Mod_readLineX h h91 := fr_call f85 fh91 rfl
          have R97 : RM h91 T D := RM_fr fh91 rfl R88
          refine V_aload_n 0 d_Mod_readLine_62 rfl rfl ?_
          refine N_getK fa_Mod_102 sk_116 rfl d_Mod_readLine_63 o95K ?_
          refine V_if_ne 107 o95E d_Mod_readLine_66 (by decide) (fun c98 => ?_) (fun c98 => ?_)
          ·
            exact absurd c98 (by omega)
          ·
            refine V_iload_n 1 d_Mod_readLine_69 rfl rfl ?_
            refine V_iconst 3 d_Mod_readLine_70 (by decide) ?_
            refine V_icmp_gt 107 tc_0 tc_3 d_Mod_readLine_71 (by decide) (fun c99 => ?_) (fun c99 => ?_)
            ·
              exact absurd c99 (by decide)
            ·
              refine V_aload_n 0 d_Mod_readLine_74 rfl rfl ?_
              refine V_aload_n 0 d_Mod_readLine_75 rfl rfl ?_
              refine N_getK fa_Mod_75 sk_116 rfl d_Mod_readLine_76 (kn_call fh91 (kn_call fh82 oK rfl) rfl) ?_
              refine V_iload_n 1 d_Mod_readLine_79 rfl rfl ?_
              refine N_ishr d_Mod_readLine_80 (fun z100 z100Z z100E z100e => ?_)
              refine V_iconst 1 d_Mod_readLine_81 (by decide) ?_
              refine N_iand d_Mod_readLine_82 (fun z101 z101Z z101E z101e => ?_)
              have g102 : z101Z = x_told T 0 := x_bt_of (RM_told R97 (kn_call fh91 (kn_call fh82 oK rfl) rfl)) (by omega) (by omega) tc_0 z101E (by assumption) (by assumption)
              have g103 : x_told T 0 = T 0 0 := by simp [x_told]
              refine V_if_ne 90 z101E d_Mod_readLine_83 (by decide) (fun c104 => ?_) (fun c104 => ?_)
              ·
                refine V_iconst 0 d_Mod_readLine_90 (by decide) ?_
                refine V_iconst 4 d_Mod_readLine_91 (by decide) ?_
                refine N_callVV [.int 0, .int 4] [] cv_Mod_144 sk_116 rfl d_Mod_readLine_92 rfl (Nat.le_of_ble_eq_true rfl) (by decide) (by decide) (c_Mod_needsX h91 hI93 0 0 tc_0 4 4 tc_4 g gZ gE (kn_call fh91 (kn_call fh82 gK rfl) rfl) o95 o95Z o95E o95K o96 o96Z o96E o96K) (fun h106 p107 => ?_)
                obtain ⟨hI108, fh106, o110, o110Z, o110E, o110K, o111, o111Z, o111E, o111K, p107⟩ := p107
                have f109 : fr S_Mod_readLineX h h106 := fr_call f94 fh106 rfl
                refine V_aload_n 0 d_Mod_readLine_95 rfl rfl ?_
                refine V_dup d_Mod_readLine_96 rfl ?_
                refine N_getK fa_Mod_75 sk_116 rfl d_Mod_readLine_97 (kn_call fh106 (kn_call fh91 (kn_call fh82 oK rfl) rfl) rfl) ?_
                refine V_iconst 1 d_Mod_readLine_100 (by decide) ?_
                refine V_iload_n 1 d_Mod_readLine_101 rfl rfl ?_
                refine N_ishl d_Mod_readLine_102 (fun z112 z112Z z112E z112e => ?_)
                refine N_ior d_Mod_readLine_103 (fun z113 z113Z z113E z113e => ?_)
                refine N_putI fp_Mod_75 sk_116 rfl d_Mod_readLine_104 (fun h114 eh114 => ?_)
                have hI115 : Inv h114 := inv_full hI108 eh114 rfl
                have f116 : fr S_Mod_readLineX h h114 := fr_put f109 eh114 rfl
                have g117 : x_fr b pZ = x_fr b (x_en b p0) := congrArg (x_fr b) (by omega)
                have g118 : x_kd b pZ = x_kd b (x_en b p0) := congrArg (x_kd b) (by omega)
                have g119 : x_en b pZ = x_en b (x_en b p0) := congrArg (x_en b) (by omega)
                have g120 : x_vl b pZ = x_vl b (x_en b p0) := congrArg (x_vl b) (by omega)
                refine V_aload_n 0 d_Mod_readLine_107 rfl rfl ?_
                refine N_callVV [] [] cv_Mod_152 sk_116 rfl d_Mod_readLine_108 rfl (Nat.le_of_ble_eq_true rfl) (by decide) (by decide) (c_Mod_nextX h114 b hI115 s sZ sE (kn_nei eh114 (kn_call fh106 (kn_call fh91 (kn_call fh82 sK rfl) rfl) rfl) (by decide)) p pZ pE (kn_nei eh114 (kn_call fh106 (kn_call fh91 (kn_call fh82 pK rfl) rfl) rfl) (by decide)) g gZ gE (kn_nei eh114 (kn_call fh106 (kn_call fh91 (kn_call fh82 gK rfl) rfl) rfl) (by decide)) k kZ kE (kn_nei eh114 (kn_call fh106 (kn_call fh91 (kn_call fh82 kK rfl) rfl) rfl) (by decide)) v vZ vE (kn_nei eh114 (kn_call fh106 (kn_call fh91 (kn_call fh82 vK rfl) rfl) rfl) (by decide)) o110 o110Z o110E (kn_nei eh114 o110K (by decide)) o111 o111Z o111E (kn_nei eh114 o111K (by decide)) (TP_fr f116 (fun _ => rfl) hy0) (by omega)) (fun h122 p123 => ?_)
                obtain ⟨hI124, fh122, o126, o126Z, o126E, o126K, o127, o127Z, o127E, o127K, o128, o128Z, o128E, o128K, o129, o129Z, o129E, o129K, o130, o130Z, o130E, o130K, o131, o131Z, o131E, o131K, p123⟩ := p123
                have f125 : fr S_Mod_readLineX h h122 := fr_call f116 fh122 rfl
                have g132 : 0 ≤ o126Z ∧ o126Z ≤ 160 := inv_at hI124 o126E o126K.symm rfl
                have g133 : 0 ≤ o127Z ∧ o127Z ≤ 160 := inv_at hI124 o127E o127K.symm rfl
                refine V_aload_n 0 d_Mod_readLine_111 rfl rfl ?_
                refine N_getK fa_Mod_102 sk_116 rfl d_Mod_readLine_112 o130K ?_
                refine V_if_le 119 o130E d_Mod_readLine_115 (by decide) (fun c134 => ?_) (fun c134 => ?_)
                ·
                  exact absurd c134 (by omega)
                ·
                  exact V_vret rfl d_Mod_readLine_118 ⟨rfl, ⟨hI124, f125, o126, o126Z, o126E, o126K, o127, o127Z, o127E, o127K, o128, o128Z, o128E, o128K, o129, o129Z, o129E, o129K, o130, o130Z, o130E, o130K, o131, o131Z, o131E, o131K, ⟨Or.inl ⟨by omega, (by have q := x_cH_s b T (D 86) p0; exact (x_line_H (by omega)).trans (pq (by omega) (by omega)))⟩, by omega, by omega, by omega⟩⟩⟩
              ·
                refine V_iconst 1 d_Mod_readLine_86 (by decide) ?_
                refine V_goto 91 d_Mod_readLine_87 (by decide) ?_
                refine V_iconst 4 d_Mod_readLine_91 (by decide) ?_
                refine N_callVV [.int 1, .int 4] [] cv_Mod_144 sk_116 rfl d_Mod_readLine_92 rfl (Nat.le_of_ble_eq_true rfl) (by decide) (by decide) (c_Mod_needsX h91 hI93 1 1 tc_1 4 4 tc_4 g gZ gE (kn_call fh91 (kn_call fh82 gK rfl) rfl) o95 o95Z o95E o95K o96 o96Z o96E o96K) (fun h136 p137 => ?_)
                obtain ⟨hI138, fh136, o140, o140Z, o140E, o140K, o141, o141Z, o141E, o141K, p137⟩ := p137
                have f139 : fr S_Mod_readLineX h h136 := fr_call f94 fh136 rfl
                have R142 : RM h136 T D := RM_fr fh136 rfl R97
                refine V_aload_n 0 d_Mod_readLine_95 rfl rfl ?_
                refine V_dup d_Mod_readLine_96 rfl ?_
                refine N_getK fa_Mod_75 sk_116 rfl d_Mod_readLine_97 (kn_call fh136 (kn_call fh91 (kn_call fh82 oK rfl) rfl) rfl) ?_
                refine V_iconst 1 d_Mod_readLine_100 (by decide) ?_
                refine V_iload_n 1 d_Mod_readLine_101 rfl rfl ?_
                refine N_ishl d_Mod_readLine_102 (fun z143 z143Z z143E z143e => ?_)
                refine N_ior d_Mod_readLine_103 (fun z144 z144Z z144E z144e => ?_)
                refine N_putI fp_Mod_75 sk_116 rfl d_Mod_readLine_104 (fun h145 eh145 => ?_)
                have hI146 : Inv h145 := inv_full hI138 eh145 rfl
                have f147 : fr S_Mod_readLineX h h145 := fr_put f139 eh145 rfl
                have R148 : RM h145 (x_upT T 0 0) D := RM_once R142 eh145 (kn_call fh136 (kn_call fh91 (kn_call fh82 oK rfl) rfl) rfl) tc_0 (by assumption) (by assumption) (by decide)
                have g149 : x_fr b pZ = x_fr b (x_en b p0) := congrArg (x_fr b) (by omega)
                have g150 : x_kd b pZ = x_kd b (x_en b p0) := congrArg (x_kd b) (by omega)
                have g151 : x_en b pZ = x_en b (x_en b p0) := congrArg (x_en b) (by omega)
                have g152 : x_vl b pZ = x_vl b (x_en b p0) := congrArg (x_vl b) (by omega)
                refine V_aload_n 0 d_Mod_readLine_107 rfl rfl ?_
                refine N_callVV [] [] cv_Mod_152 sk_116 rfl d_Mod_readLine_108 rfl (Nat.le_of_ble_eq_true rfl) (by decide) (by decide) (c_Mod_nextX h145 b hI146 s sZ sE (kn_nei eh145 (kn_call fh136 (kn_call fh91 (kn_call fh82 sK rfl) rfl) rfl) (by decide)) p pZ pE (kn_nei eh145 (kn_call fh136 (kn_call fh91 (kn_call fh82 pK rfl) rfl) rfl) (by decide)) g gZ gE (kn_nei eh145 (kn_call fh136 (kn_call fh91 (kn_call fh82 gK rfl) rfl) rfl) (by decide)) k kZ kE (kn_nei eh145 (kn_call fh136 (kn_call fh91 (kn_call fh82 kK rfl) rfl) rfl) (by decide)) v vZ vE (kn_nei eh145 (kn_call fh136 (kn_call fh91 (kn_call fh82 vK rfl) rfl) rfl) (by decide)) o140 o140Z o140E (kn_nei eh145 o140K (by decide)) o141 o141Z o141E (kn_nei eh145 o141K (by decide)) (TP_fr f147 (fun _ => rfl) hy0) (by omega)) (fun h154 p155 => ?_)
                obtain ⟨hI156, fh154, o158, o158Z, o158E, o158K, o159, o159Z, o159E, o159K, o160, o160Z, o160E, o160K, o161, o161Z, o161E, o161K, o162, o162Z, o162E, o162K, o163, o163Z, o163E, o163K, p155⟩ := p155
                have f157 : fr S_Mod_readLineX h h154 := fr_call f147 fh154 rfl
                have R164 : RM h154 (x_upT T 0 0) D := RM_fr fh154 rfl R148
                have g165 : 0 ≤ o158Z ∧ o158Z ≤ 160 := inv_at hI156 o158E o158K.symm rfl
                have g166 : 0 ≤ o159Z ∧ o159Z ≤ 160 := inv_at hI156 o159E o159K.symm rfl
                rcases (by omega : o162Z ≠ 0 ∨ o162Z = 0) with c167 | c167
                ·
                  replace p155 := p155.resolve_left (fun q => by omega)
                  have hH : x_cH b T (D 86) p0 = 0 := by have q := x_cH_s b T (D 86) p0; omega
                  have g168 := x_cN_s b (x_en b p0) 2 4
                  refine V_aload_n 0 d_Mod_readLine_111 rfl rfl ?_
                  refine N_getK fa_Mod_102 sk_116 rfl d_Mod_readLine_112 o162K ?_
                  refine V_if_le 119 o162E d_Mod_readLine_115 (by decide) (fun c169 => ?_) (fun c169 => ?_)
                  ·
                    exact absurd c169 (by omega)
                  ·
                    exact V_vret rfl d_Mod_readLine_118 ⟨rfl, ⟨hI156, f157, o158, o158Z, o158E, o158K, o159, o159Z, o159E, o159K, o160, o160Z, o160E, o160K, o161, o161Z, o161E, o161K, o162, o162Z, o162E, o162K, o163, o163Z, o163E, o163K, ⟨Or.inl ⟨by omega, (x_line_0 rfl hH hL).trans ((show x_l0 b T (x_en b p0) = (x_cN b (x_en b p0) 2 4, x_fr b (x_en b p0)) from by unfold x_l0; rw [x_sq_y (c := x_cN b (x_en b p0) 2 4) (by omega)]).trans (pq (by omega) (by omega)))⟩, by omega, by omega, by omega⟩⟩⟩
                ·
                  replace p155 := p155.resolve_left (fun q => by omega)
                  have hH : x_cH b T (D 86) p0 = 0 := by have q := x_cH_s b T (D 86) p0; omega
                  refine V_aload_n 0 d_Mod_readLine_111 rfl rfl ?_
                  refine N_getK fa_Mod_102 sk_116 rfl d_Mod_readLine_112 o162K ?_
                  refine V_if_le 119 o162E d_Mod_readLine_115 (by decide) (fun c170 => ?_) (fun c170 => ?_)
                  ·
                    refine V_aload_n 0 d_Mod_readLine_119 rfl rfl ?_
                    refine V_iload_n 1 d_Mod_readLine_120 rfl rfl ?_
                    refine N_callVV [.int 0] [] cv_Mod_177 sk_116 rfl d_Mod_readLine_121 rfl (Nat.le_of_ble_eq_true rfl) (by decide) (by decide) (c_Mod_readLineOfX_0 h154 b (x_upT T 0 0) D (x_en b p0) hI156 s sZ sE (kn_call fh154 (kn_nei eh145 (kn_call fh136 (kn_call fh91 (kn_call fh82 sK rfl) rfl) rfl) (by decide)) rfl) o158 o158Z o158E o158K o159 o159Z o159E o159K o160 o160Z o160E o160K o161 o161Z o161E o161K o162 o162Z o162E o162K o163 o163Z o163E o163K (TP_fr f157 (fun _ => rfl) hy0) (by omega) ⟨by omega, by omega, by omega, by omega, by omega, by omega, by omega, by omega, by omega, by omega, by omega⟩ R164) (fun h172 p173 => ?_)
                    obtain ⟨hI174, fh172, o176, o176Z, o176E, o176K, o177, o177Z, o177E, o177K, o178, o178Z, o178E, o178K, o179, o179Z, o179E, o179K, o180, o180Z, o180E, o180K, o181, o181Z, o181E, o181K, p173⟩ := p173
                    have f175 : fr S_Mod_readLineX h h172 := fr_call f157 fh172 rfl
                    have g182 : 0 ≤ o176Z ∧ o176Z ≤ 160 := inv_at hI174 o176E o176K.symm rfl
                    have g183 : 0 ≤ o177Z ∧ o177Z ≤ 160 := inv_at hI174 o177E o177K.symm rfl
                    rcases (by omega : o180Z ≠ 0 ∨ o180Z = 0) with c184 | c184
                    ·
                      obtain ⟨hq0, hq⟩ := p173.1.resolve_right (fun q => absurd q.1 c184)
                      replace p173 := p173.2
                      refine V_aload_n 0 d_Mod_readLine_124 rfl rfl ?_
                      refine N_getK fa_Mod_102 sk_116 rfl d_Mod_readLine_125 o180K ?_
                      refine V_if_ne 149 o180E d_Mod_readLine_128 (by decide) (fun c185 => ?_) (fun c185 => ?_)
                      ·
                        refine V_aload_n 0 d_Mod_readLine_149 rfl rfl ?_
                        refine N_callVV [] [] cv_Mod_152 sk_116 rfl d_Mod_readLine_150 rfl (Nat.le_of_ble_eq_true rfl) (by decide) (by decide) (c_Mod_nextX h172 b hI174 s sZ sE (kn_call fh172 (kn_call fh154 (kn_nei eh145 (kn_call fh136 (kn_call fh91 (kn_call fh82 sK rfl) rfl) rfl) (by decide)) rfl) rfl) o176 o176Z o176E o176K o177 o177Z o177E o177K o178 o178Z o178E o178K o179 o179Z o179E o179K o180 o180Z o180E o180K o181 o181Z o181E o181K (TP_fr f175 (fun _ => rfl) hy0) (by omega)) (fun h187 p188 => ?_)
                        obtain ⟨hI189, fh187, o191, o191Z, o191E, o191K, o192, o192Z, o192E, o192K, o193, o193Z, o193E, o193K, o194, o194Z, o194E, o194K, o195, o195Z, o195E, o195K, o196, o196Z, o196E, o196K, p188⟩ := p188
                        have f190 : fr S_Mod_readLineX h h187 := fr_call f175 fh187 rfl
                        have g197 : 0 ≤ o191Z ∧ o191Z ≤ 160 := inv_at hI189 o191E o191K.symm rfl
                        have g198 : 0 ≤ o192Z ∧ o192Z ≤ 160 := inv_at hI189 o192E o192K.symm rfl
                        exact V_vret rfl d_Mod_readLine_153 ⟨rfl, ⟨hI189, f190, o191, o191Z, o191E, o191K, o192, o192Z, o192E, o192K, o193, o193Z, o193E, o193K, o194, o194Z, o194E, o194K, o195, o195Z, o195E, o195K, o196, o196Z, o196E, o196K, ⟨Or.inl ⟨by omega, (x_line_0 rfl hH hL).trans (hq.trans (pq (by omega) (by omega)))⟩, by omega, by omega, by omega⟩⟩⟩
                      ·
                        exact absurd c185 (by omega)
                    ·
                      obtain ⟨p1730, hl, p173X, p173R⟩ := p173.1.resolve_left (fun q => absurd c184 q.1)
                      replace p173 := p173.2
                      refine V_aload_n 0 d_Mod_readLine_124 rfl rfl ?_
                      refine N_getK fa_Mod_102 sk_116 rfl d_Mod_readLine_125 o180K ?_
                      refine V_if_ne 149 o180E d_Mod_readLine_128 (by decide) (fun c199 => ?_) (fun c199 => ?_)
                      ·
                        exact absurd c199 (by omega)
                      ·
                        have g200 := x_cS_s b (x_en b (x_en b (x_en b p0)))
                        refine V_aload_n 0 d_Mod_readLine_131 rfl rfl ?_
                        refine V_aload_n 0 d_Mod_readLine_132 rfl rfl ?_
                        refine N_getK fa_Mod_130 sk_116 rfl d_Mod_readLine_133 o178K ?_
                        refine V_iconst 3 d_Mod_readLine_136 (by decide) ?_
                        refine V_icmp_ne 144 o178E tc_3 d_Mod_readLine_137 (by decide) (fun c201 => ?_) (fun c201 => ?_)
                        ·
                          refine V_iconst 0 d_Mod_readLine_144 (by decide) ?_
                          refine V_iconst 2 d_Mod_readLine_145 (by decide) ?_
                          refine N_callVV [.int 0, .int 2] [] cv_Mod_144 sk_116 rfl d_Mod_readLine_146 rfl (Nat.le_of_ble_eq_true rfl) (by decide) (by decide) (c_Mod_needsX h172 hI174 0 0 tc_0 2 2 tc_2 o177 o177Z o177E o177K o180 o180Z o180E o180K o181 o181Z o181E o181K) (fun h203 p204 => ?_)
                          obtain ⟨hI205, fh203, o207, o207Z, o207E, o207K, o208, o208Z, o208E, o208K, p204⟩ := p204
                          have f206 : fr S_Mod_readLineX h h203 := fr_call f175 fh203 rfl
                          refine V_aload_n 0 d_Mod_readLine_149 rfl rfl ?_
                          refine N_callVV [] [] cv_Mod_152 sk_116 rfl d_Mod_readLine_150 rfl (Nat.le_of_ble_eq_true rfl) (by decide) (by decide) (c_Mod_nextX h203 b hI205 s sZ sE (kn_call fh203 (kn_call fh172 (kn_call fh154 (kn_nei eh145 (kn_call fh136 (kn_call fh91 (kn_call fh82 sK rfl) rfl) rfl) (by decide)) rfl) rfl) rfl) o176 o176Z o176E (kn_call fh203 o176K rfl) o177 o177Z o177E (kn_call fh203 o177K rfl) o178 o178Z o178E (kn_call fh203 o178K rfl) o179 o179Z o179E (kn_call fh203 o179K rfl) o207 o207Z o207E o207K o208 o208Z o208E o208K (TP_fr f206 (fun _ => rfl) hy0) (by omega)) (fun h210 p211 => ?_)
                          obtain ⟨hI212, fh210, o214, o214Z, o214E, o214K, o215, o215Z, o215E, o215K, o216, o216Z, o216E, o216K, o217, o217Z, o217E, o217K, o218, o218Z, o218E, o218K, o219, o219Z, o219E, o219K, p211⟩ := p211
                          have f213 : fr S_Mod_readLineX h h210 := fr_call f206 fh210 rfl
                          have g220 : 0 ≤ o214Z ∧ o214Z ≤ 160 := inv_at hI212 o214E o214K.symm rfl
                          have g221 : 0 ≤ o215Z ∧ o215Z ≤ 160 := inv_at hI212 o215E o215K.symm rfl
                          exact V_vret rfl d_Mod_readLine_153 ⟨rfl, ⟨hI212, f213, o214, o214Z, o214E, o214K, o215, o215Z, o215E, o215K, o216, o216Z, o216E, o216K, o217, o217Z, o217E, o217K, o218, o218Z, o218E, o218K, o219, o219Z, o219E, o219K, ⟨Or.inl ⟨by omega, (x_line_0 rfl hH hL).trans (hl.trans ((x_sq_y (by omega)).trans (pq (by omega) (by omega))))⟩, by omega, by omega, by omega⟩⟩⟩
                        ·
                          refine V_iconst 1 d_Mod_readLine_140 (by decide) ?_
                          refine V_goto 145 d_Mod_readLine_141 (by decide) ?_
                          refine V_iconst 2 d_Mod_readLine_145 (by decide) ?_
                          refine N_callVV [.int 1, .int 2] [] cv_Mod_144 sk_116 rfl d_Mod_readLine_146 rfl (Nat.le_of_ble_eq_true rfl) (by decide) (by decide) (c_Mod_needsX h172 hI174 1 1 tc_1 2 2 tc_2 o177 o177Z o177E o177K o180 o180Z o180E o180K o181 o181Z o181E o181K) (fun h223 p224 => ?_)
                          obtain ⟨hI225, fh223, o227, o227Z, o227E, o227K, o228, o228Z, o228E, o228K, p224⟩ := p224
                          have f226 : fr S_Mod_readLineX h h223 := fr_call f175 fh223 rfl
                          have R229 : RM h223 (x_upT T 0 0) (x_up (x_up D 144 (x_vl b (x_en b p0))) 145 (x_vl b (x_en b (x_en b p0)))) := RM_fr fh223 rfl p173R
                          have g230 : x_fr b o176Z = x_fr b (x_en b (x_en b (x_en b (x_en b p0)))) := congrArg (x_fr b) (by omega)
                          have g231 : x_kd b o176Z = x_kd b (x_en b (x_en b (x_en b (x_en b p0)))) := congrArg (x_kd b) (by omega)
                          have g232 : x_en b o176Z = x_en b (x_en b (x_en b (x_en b (x_en b p0)))) := congrArg (x_en b) (by omega)
                          have g233 : x_vl b o176Z = x_vl b (x_en b (x_en b (x_en b (x_en b p0)))) := congrArg (x_vl b) (by omega)
                          have hmo := And.intro (x_fr_ge b p0) (And.intro (x_en_ge b (x_en b p0)) (x_en_ge b (x_en b (x_en b p0))))
                          refine V_aload_n 0 d_Mod_readLine_149 rfl rfl ?_
                          refine N_callVV [] [] cv_Mod_152 sk_116 rfl d_Mod_readLine_150 rfl (Nat.le_of_ble_eq_true rfl) (by decide) (by decide) (c_Mod_nextX h223 b hI225 s sZ sE (kn_call fh223 (kn_call fh172 (kn_call fh154 (kn_nei eh145 (kn_call fh136 (kn_call fh91 (kn_call fh82 sK rfl) rfl) rfl) (by decide)) rfl) rfl) rfl) o176 o176Z o176E (kn_call fh223 o176K rfl) o177 o177Z o177E (kn_call fh223 o177K rfl) o178 o178Z o178E (kn_call fh223 o178K rfl) o179 o179Z o179E (kn_call fh223 o179K rfl) o227 o227Z o227E o227K o228 o228Z o228E o228K (TP_fr f226 (fun _ => rfl) hy0) (by omega)) (fun h235 p236 => ?_)
                          obtain ⟨hI237, fh235, o239, o239Z, o239E, o239K, o240, o240Z, o240E, o240K, o241, o241Z, o241E, o241K, o242, o242Z, o242E, o242K, o243, o243Z, o243E, o243K, o244, o244Z, o244E, o244K, p236⟩ := p236
                          have f238 : fr S_Mod_readLineX h h235 := fr_call f226 fh235 rfl
                          have R245 : RM h235 (x_upT T 0 0) (x_up (x_up D 144 (x_vl b (x_en b p0))) 145 (x_vl b (x_en b (x_en b p0)))) := RM_fr fh235 rfl R229
                          have g246 : 0 ≤ o239Z ∧ o239Z ≤ 160 := inv_at hI237 o239E o239K.symm rfl
                          have g247 : 0 ≤ o240Z ∧ o240Z ≤ 160 := inv_at hI237 o240E o240K.symm rfl
                          exact V_vret rfl d_Mod_readLine_153 ⟨rfl, ⟨hI237, f238, o239, o239Z, o239E, o239K, o240, o240Z, o240E, o240K, o241, o241Z, o241E, o241K, o242, o242Z, o242E, o242K, o243, o243Z, o243E, o243K, o244, o244Z, o244E, o244K, ⟨Or.inr ⟨x_en b (x_en b (x_en b (x_en b p0))), (x_line_0 rfl hH hL).trans (hl.trans (x_sq_n (by omega))), by omega, by omega, (by rw [x_T_0 T (u := x_en b p0) rfl hL, x_D_0 D (u := x_en b p0) rfl hL]; exact R245), (if q9 : o243Z = 0 then Or.inr ⟨q9, by omega, by omega, by omega, by omega, by omega, by omega, by omega, by omega, by omega, by omega, by omega⟩ else Or.inl ⟨by omega, by omega, by omega⟩)⟩, by omega, by omega, by omega⟩⟩⟩
                  ·
                    exact absurd c170 (by omega)
        ·
          exact absurd c89 (by decide)
    ·
      obtain rfl : z41 = 1 := (ti_eq z41E tc_1).mpr c44
      subst c44
      have hL : x_li b p0 = 6 := by omega
      clear p43
      refine V_aload_n 0 d_Mod_readLine_18 rfl rfl ?_
      refine V_iload_n 1 d_Mod_readLine_19 rfl rfl ?_
      refine V_bipush (-4) d_Mod_readLine_20 (by decide) ?_
      refine V_icmp_eq 29 tc_1 tc_m4 d_Mod_readLine_22 (by decide) (fun c248 => ?_) (fun c248 => ?_)
      ·
        exact absurd c248 (by decide)
      ·
        refine V_iconst 1 d_Mod_readLine_25 (by decide) ?_
        refine V_goto 30 d_Mod_readLine_26 (by decide) ?_
        refine V_iconst 2 d_Mod_readLine_30 (by decide) ?_
        refine N_callVV [.int 1, .int 2] [] cv_Mod_144 sk_116 rfl d_Mod_readLine_31 rfl (Nat.le_of_ble_eq_true rfl) (by decide) (by decide) (c_Mod_needsX h hI 1 1 tc_1 2 2 tc_2 g gZ gE gK w wZ wE wK a aZ aE aK) (fun h250 p251 => ?_)
        obtain ⟨hI252, fh250, o254, o254Z, o254E, o254K, o255, o255Z, o255E, o255K, p251⟩ := p251
        have f253 : fr S_Mod_readLineX h h250 := fr_call f0 fh250 rfl
        have R256 : RM h250 T D := RM_fr fh250 rfl hy3
        refine V_aload_n 0 d_Mod_readLine_34 rfl rfl ?_
        refine V_iload_n 1 d_Mod_readLine_35 rfl rfl ?_
        refine V_bipush 9 d_Mod_readLine_36 (by decide) ?_
        refine V_icmp_ne 53 tc_1 tc_9 d_Mod_readLine_38 (by decide) (fun c257 => ?_) (fun c257 => ?_)
        ·
          refine V_iconst 1 d_Mod_readLine_53 (by decide) ?_
          refine V_goto 58 d_Mod_readLine_54 (by decide) ?_
          refine V_iconst 5 d_Mod_readLine_58 (by decide) ?_
          refine N_callVV [.int 1, .int 5] [] cv_Mod_144 sk_116 rfl d_Mod_readLine_59 rfl (Nat.le_of_ble_eq_true rfl) (by decide) (by decide) (c_Mod_needsX h250 hI252 1 1 tc_1 5 5 tc_5 g gZ gE (kn_call fh250 gK rfl) o254 o254Z o254E o254K o255 o255Z o255E o255K) (fun h259 p260 => ?_)
          obtain ⟨hI261, fh259, o263, o263Z, o263E, o263K, o264, o264Z, o264E, o264K, p260⟩ := p260
          have f262 : fr S_Mod_readLineX h h259 := fr_call f253 fh259 rfl
          have R265 : RM h259 T D := RM_fr fh259 rfl R256
          refine V_aload_n 0 d_Mod_readLine_62 rfl rfl ?_
          refine N_getK fa_Mod_102 sk_116 rfl d_Mod_readLine_63 o263K ?_
          refine V_if_ne 107 o263E d_Mod_readLine_66 (by decide) (fun c266 => ?_) (fun c266 => ?_)
          ·
            exact absurd c266 (by omega)
          ·
            refine V_iload_n 1 d_Mod_readLine_69 rfl rfl ?_
            refine V_iconst 3 d_Mod_readLine_70 (by decide) ?_
            refine V_icmp_gt 107 tc_1 tc_3 d_Mod_readLine_71 (by decide) (fun c267 => ?_) (fun c267 => ?_)
            ·
              exact absurd c267 (by decide)
            ·
              refine V_aload_n 0 d_Mod_readLine_74 rfl rfl ?_
              refine V_aload_n 0 d_Mod_readLine_75 rfl rfl ?_
              refine N_getK fa_Mod_75 sk_116 rfl d_Mod_readLine_76 (kn_call fh259 (kn_call fh250 oK rfl) rfl) ?_
              refine V_iload_n 1 d_Mod_readLine_79 rfl rfl ?_
              refine N_ishr d_Mod_readLine_80 (fun z268 z268Z z268E z268e => ?_)
              refine V_iconst 1 d_Mod_readLine_81 (by decide) ?_
              refine N_iand d_Mod_readLine_82 (fun z269 z269Z z269E z269e => ?_)
              have g270 : z269Z = x_told T 1 := x_bt_of (RM_told R265 (kn_call fh259 (kn_call fh250 oK rfl) rfl)) (by omega) (by omega) tc_1 z269E (by assumption) (by assumption)
              have g271 : x_told T 1 = T 6 0 := by simp [x_told]
              refine V_if_ne 90 z269E d_Mod_readLine_83 (by decide) (fun c272 => ?_) (fun c272 => ?_)
              ·
                refine V_iconst 0 d_Mod_readLine_90 (by decide) ?_
                refine V_iconst 4 d_Mod_readLine_91 (by decide) ?_
                refine N_callVV [.int 0, .int 4] [] cv_Mod_144 sk_116 rfl d_Mod_readLine_92 rfl (Nat.le_of_ble_eq_true rfl) (by decide) (by decide) (c_Mod_needsX h259 hI261 0 0 tc_0 4 4 tc_4 g gZ gE (kn_call fh259 (kn_call fh250 gK rfl) rfl) o263 o263Z o263E o263K o264 o264Z o264E o264K) (fun h274 p275 => ?_)
                obtain ⟨hI276, fh274, o278, o278Z, o278E, o278K, o279, o279Z, o279E, o279K, p275⟩ := p275
                have f277 : fr S_Mod_readLineX h h274 := fr_call f262 fh274 rfl
                refine V_aload_n 0 d_Mod_readLine_95 rfl rfl ?_
                refine V_dup d_Mod_readLine_96 rfl ?_
                refine N_getK fa_Mod_75 sk_116 rfl d_Mod_readLine_97 (kn_call fh274 (kn_call fh259 (kn_call fh250 oK rfl) rfl) rfl) ?_
                refine V_iconst 1 d_Mod_readLine_100 (by decide) ?_
                refine V_iload_n 1 d_Mod_readLine_101 rfl rfl ?_
                refine N_ishl d_Mod_readLine_102 (fun z280 z280Z z280E z280e => ?_)
                refine N_ior d_Mod_readLine_103 (fun z281 z281Z z281E z281e => ?_)
                refine N_putI fp_Mod_75 sk_116 rfl d_Mod_readLine_104 (fun h282 eh282 => ?_)
                have hI283 : Inv h282 := inv_full hI276 eh282 rfl
                have f284 : fr S_Mod_readLineX h h282 := fr_put f277 eh282 rfl
                have g285 : x_fr b pZ = x_fr b (x_en b p0) := congrArg (x_fr b) (by omega)
                have g286 : x_kd b pZ = x_kd b (x_en b p0) := congrArg (x_kd b) (by omega)
                have g287 : x_en b pZ = x_en b (x_en b p0) := congrArg (x_en b) (by omega)
                have g288 : x_vl b pZ = x_vl b (x_en b p0) := congrArg (x_vl b) (by omega)
                refine V_aload_n 0 d_Mod_readLine_107 rfl rfl ?_
                refine N_callVV [] [] cv_Mod_152 sk_116 rfl d_Mod_readLine_108 rfl (Nat.le_of_ble_eq_true rfl) (by decide) (by decide) (c_Mod_nextX h282 b hI283 s sZ sE (kn_nei eh282 (kn_call fh274 (kn_call fh259 (kn_call fh250 sK rfl) rfl) rfl) (by decide)) p pZ pE (kn_nei eh282 (kn_call fh274 (kn_call fh259 (kn_call fh250 pK rfl) rfl) rfl) (by decide)) g gZ gE (kn_nei eh282 (kn_call fh274 (kn_call fh259 (kn_call fh250 gK rfl) rfl) rfl) (by decide)) k kZ kE (kn_nei eh282 (kn_call fh274 (kn_call fh259 (kn_call fh250 kK rfl) rfl) rfl) (by decide)) v vZ vE (kn_nei eh282 (kn_call fh274 (kn_call fh259 (kn_call fh250 vK rfl) rfl) rfl) (by decide)) o278 o278Z o278E (kn_nei eh282 o278K (by decide)) o279 o279Z o279E (kn_nei eh282 o279K (by decide)) (TP_fr f284 (fun _ => rfl) hy0) (by omega)) (fun h290 p291 => ?_)
                obtain ⟨hI292, fh290, o294, o294Z, o294E, o294K, o295, o295Z, o295E, o295K, o296, o296Z, o296E, o296K, o297, o297Z, o297E, o297K, o298, o298Z, o298E, o298K, o299, o299Z, o299E, o299K, p291⟩ := p291
                have f293 : fr S_Mod_readLineX h h290 := fr_call f284 fh290 rfl
                have g300 : 0 ≤ o294Z ∧ o294Z ≤ 160 := inv_at hI292 o294E o294K.symm rfl
                have g301 : 0 ≤ o295Z ∧ o295Z ≤ 160 := inv_at hI292 o295E o295K.symm rfl
                refine V_aload_n 0 d_Mod_readLine_111 rfl rfl ?_
                refine N_getK fa_Mod_102 sk_116 rfl d_Mod_readLine_112 o298K ?_
                refine V_if_le 119 o298E d_Mod_readLine_115 (by decide) (fun c302 => ?_) (fun c302 => ?_)
                ·
                  exact absurd c302 (by omega)
                ·
                  exact V_vret rfl d_Mod_readLine_118 ⟨rfl, ⟨hI292, f293, o294, o294Z, o294E, o294K, o295, o295Z, o295E, o295K, o296, o296Z, o296E, o296K, o297, o297Z, o297E, o297K, o298, o298Z, o298E, o298K, o299, o299Z, o299E, o299K, ⟨Or.inl ⟨by omega, (by have q := x_cH_s b T (D 86) p0; exact (x_line_H (by omega)).trans (pq (by omega) (by omega)))⟩, by omega, by omega, by omega⟩⟩⟩
              ·
                refine V_iconst 1 d_Mod_readLine_86 (by decide) ?_
                refine V_goto 91 d_Mod_readLine_87 (by decide) ?_
                refine V_iconst 4 d_Mod_readLine_91 (by decide) ?_
                refine N_callVV [.int 1, .int 4] [] cv_Mod_144 sk_116 rfl d_Mod_readLine_92 rfl (Nat.le_of_ble_eq_true rfl) (by decide) (by decide) (c_Mod_needsX h259 hI261 1 1 tc_1 4 4 tc_4 g gZ gE (kn_call fh259 (kn_call fh250 gK rfl) rfl) o263 o263Z o263E o263K o264 o264Z o264E o264K) (fun h304 p305 => ?_)
                obtain ⟨hI306, fh304, o308, o308Z, o308E, o308K, o309, o309Z, o309E, o309K, p305⟩ := p305
                have f307 : fr S_Mod_readLineX h h304 := fr_call f262 fh304 rfl
                have R310 : RM h304 T D := RM_fr fh304 rfl R265
                refine V_aload_n 0 d_Mod_readLine_95 rfl rfl ?_
                refine V_dup d_Mod_readLine_96 rfl ?_
                refine N_getK fa_Mod_75 sk_116 rfl d_Mod_readLine_97 (kn_call fh304 (kn_call fh259 (kn_call fh250 oK rfl) rfl) rfl) ?_
                refine V_iconst 1 d_Mod_readLine_100 (by decide) ?_
                refine V_iload_n 1 d_Mod_readLine_101 rfl rfl ?_
                refine N_ishl d_Mod_readLine_102 (fun z311 z311Z z311E z311e => ?_)
                refine N_ior d_Mod_readLine_103 (fun z312 z312Z z312E z312e => ?_)
                refine N_putI fp_Mod_75 sk_116 rfl d_Mod_readLine_104 (fun h313 eh313 => ?_)
                have hI314 : Inv h313 := inv_full hI306 eh313 rfl
                have f315 : fr S_Mod_readLineX h h313 := fr_put f307 eh313 rfl
                have R316 : RM h313 (x_upT T 6 0) D := RM_once R310 eh313 (kn_call fh304 (kn_call fh259 (kn_call fh250 oK rfl) rfl) rfl) tc_1 (by assumption) (by assumption) (by decide)
                have g317 : x_fr b pZ = x_fr b (x_en b p0) := congrArg (x_fr b) (by omega)
                have g318 : x_kd b pZ = x_kd b (x_en b p0) := congrArg (x_kd b) (by omega)
                have g319 : x_en b pZ = x_en b (x_en b p0) := congrArg (x_en b) (by omega)
                have g320 : x_vl b pZ = x_vl b (x_en b p0) := congrArg (x_vl b) (by omega)
                refine V_aload_n 0 d_Mod_readLine_107 rfl rfl ?_
                refine N_callVV [] [] cv_Mod_152 sk_116 rfl d_Mod_readLine_108 rfl (Nat.le_of_ble_eq_true rfl) (by decide) (by decide) (c_Mod_nextX h313 b hI314 s sZ sE (kn_nei eh313 (kn_call fh304 (kn_call fh259 (kn_call fh250 sK rfl) rfl) rfl) (by decide)) p pZ pE (kn_nei eh313 (kn_call fh304 (kn_call fh259 (kn_call fh250 pK rfl) rfl) rfl) (by decide)) g gZ gE (kn_nei eh313 (kn_call fh304 (kn_call fh259 (kn_call fh250 gK rfl) rfl) rfl) (by decide)) k kZ kE (kn_nei eh313 (kn_call fh304 (kn_call fh259 (kn_call fh250 kK rfl) rfl) rfl) (by decide)) v vZ vE (kn_nei eh313 (kn_call fh304 (kn_call fh259 (kn_call fh250 vK rfl) rfl) rfl) (by decide)) o308 o308Z o308E (kn_nei eh313 o308K (by decide)) o309 o309Z o309E (kn_nei eh313 o309K (by decide)) (TP_fr f315 (fun _ => rfl) hy0) (by omega)) (fun h322 p323 => ?_)
                obtain ⟨hI324, fh322, o326, o326Z, o326E, o326K, o327, o327Z, o327E, o327K, o328, o328Z, o328E, o328K, o329, o329Z, o329E, o329K, o330, o330Z, o330E, o330K, o331, o331Z, o331E, o331K, p323⟩ := p323
                have f325 : fr S_Mod_readLineX h h322 := fr_call f315 fh322 rfl
                have R332 : RM h322 (x_upT T 6 0) D := RM_fr fh322 rfl R316
                have g333 : 0 ≤ o326Z ∧ o326Z ≤ 160 := inv_at hI324 o326E o326K.symm rfl
                have g334 : 0 ≤ o327Z ∧ o327Z ≤ 160 := inv_at hI324 o327E o327K.symm rfl
                rcases (by omega : o330Z ≠ 0 ∨ o330Z = 0) with c335 | c335
                ·
                  replace p323 := p323.resolve_left (fun q => by omega)
                  have hH : x_cH b T (D 86) p0 = 0 := by have q := x_cH_s b T (D 86) p0; omega
                  have g336 := x_cN_s b (x_en b p0) 1 9
                  refine V_aload_n 0 d_Mod_readLine_111 rfl rfl ?_
                  refine N_getK fa_Mod_102 sk_116 rfl d_Mod_readLine_112 o330K ?_
                  refine V_if_le 119 o330E d_Mod_readLine_115 (by decide) (fun c337 => ?_) (fun c337 => ?_)
                  ·
                    exact absurd c337 (by omega)
                  ·
                    exact V_vret rfl d_Mod_readLine_118 ⟨rfl, ⟨hI324, f325, o326, o326Z, o326E, o326K, o327, o327Z, o327E, o327K, o328, o328Z, o328E, o328K, o329, o329Z, o329E, o329K, o330, o330Z, o330E, o330K, o331, o331Z, o331E, o331K, ⟨Or.inl ⟨by omega, (x_line_6 rfl hH hL).trans ((show x_l6 b T (x_en b p0) = (x_cN b (x_en b p0) 1 9, x_fr b (x_en b p0)) from by unfold x_l6; rw [x_sq_y (c := x_cN b (x_en b p0) 1 9) (by omega)]).trans (pq (by omega) (by omega)))⟩, by omega, by omega, by omega⟩⟩⟩
                ·
                  replace p323 := p323.resolve_left (fun q => by omega)
                  have hH : x_cH b T (D 86) p0 = 0 := by have q := x_cH_s b T (D 86) p0; omega
                  refine V_aload_n 0 d_Mod_readLine_111 rfl rfl ?_
                  refine N_getK fa_Mod_102 sk_116 rfl d_Mod_readLine_112 o330K ?_
                  refine V_if_le 119 o330E d_Mod_readLine_115 (by decide) (fun c338 => ?_) (fun c338 => ?_)
                  ·
                    refine V_aload_n 0 d_Mod_readLine_119 rfl rfl ?_
                    refine V_iload_n 1 d_Mod_readLine_120 rfl rfl ?_
                    refine N_callVV [.int 1] [] cv_Mod_177 sk_116 rfl d_Mod_readLine_121 rfl (Nat.le_of_ble_eq_true rfl) (by decide) (by decide) (c_Mod_readLineOfX_1 h322 b (x_upT T 6 0) D (x_en b p0) hI324 s sZ sE (kn_call fh322 (kn_nei eh313 (kn_call fh304 (kn_call fh259 (kn_call fh250 sK rfl) rfl) rfl) (by decide)) rfl) o326 o326Z o326E o326K o327 o327Z o327E o327K o328 o328Z o328E o328K o329 o329Z o329E o329K o330 o330Z o330E o330K o331 o331Z o331E o331K (TP_fr f325 (fun _ => rfl) hy0) (by omega) ⟨by omega, by omega, by omega, by omega, by omega, by omega, by omega, by omega, by omega, by omega, by omega⟩ R332) (fun h340 p341 => ?_)
                    obtain ⟨hI342, fh340, o344, o344Z, o344E, o344K, o345, o345Z, o345E, o345K, o346, o346Z, o346E, o346K, o347, o347Z, o347E, o347K, o348, o348Z, o348E, o348K, o349, o349Z, o349E, o349K, p341⟩ := p341
                    have f343 : fr S_Mod_readLineX h h340 := fr_call f325 fh340 rfl
                    have g350 : 0 ≤ o344Z ∧ o344Z ≤ 160 := inv_at hI342 o344E o344K.symm rfl
                    have g351 : 0 ≤ o345Z ∧ o345Z ≤ 160 := inv_at hI342 o345E o345K.symm rfl
                    rcases (by omega : o348Z ≠ 0 ∨ o348Z = 0) with c352 | c352
                    ·
                      obtain ⟨hq0, hq⟩ := p341.1.resolve_right (fun q => absurd q.1 c352)
                      replace p341 := p341.2
                      refine V_aload_n 0 d_Mod_readLine_124 rfl rfl ?_
                      refine N_getK fa_Mod_102 sk_116 rfl d_Mod_readLine_125 o348K ?_
                      refine V_if_ne 149 o348E d_Mod_readLine_128 (by decide) (fun c353 => ?_) (fun c353 => ?_)
                      ·
                        refine V_aload_n 0 d_Mod_readLine_149 rfl rfl ?_
                        refine N_callVV [] [] cv_Mod_152 sk_116 rfl d_Mod_readLine_150 rfl (Nat.le_of_ble_eq_true rfl) (by decide) (by decide) (c_Mod_nextX h340 b hI342 s sZ sE (kn_call fh340 (kn_call fh322 (kn_nei eh313 (kn_call fh304 (kn_call fh259 (kn_call fh250 sK rfl) rfl) rfl) (by decide)) rfl) rfl) o344 o344Z o344E o344K o345 o345Z o345E o345K o346 o346Z o346E o346K o347 o347Z o347E o347K o348 o348Z o348E o348K o349 o349Z o349E o349K (TP_fr f343 (fun _ => rfl) hy0) (by omega)) (fun h355 p356 => ?_)
                        obtain ⟨hI357, fh355, o359, o359Z, o359E, o359K, o360, o360Z, o360E, o360K, o361, o361Z, o361E, o361K, o362, o362Z, o362E, o362K, o363, o363Z, o363E, o363K, o364, o364Z, o364E, o364K, p356⟩ := p356
                        have f358 : fr S_Mod_readLineX h h355 := fr_call f343 fh355 rfl
                        have g365 : 0 ≤ o359Z ∧ o359Z ≤ 160 := inv_at hI357 o359E o359K.symm rfl
                        have g366 : 0 ≤ o360Z ∧ o360Z ≤ 160 := inv_at hI357 o360E o360K.symm rfl
                        exact V_vret rfl d_Mod_readLine_153 ⟨rfl, ⟨hI357, f358, o359, o359Z, o359E, o359K, o360, o360Z, o360E, o360K, o361, o361Z, o361E, o361K, o362, o362Z, o362E, o362K, o363, o363Z, o363E, o363K, o364, o364Z, o364E, o364K, ⟨Or.inl ⟨by omega, (x_line_6 rfl hH hL).trans (hq.trans (pq (by omega) (by omega)))⟩, by omega, by omega, by omega⟩⟩⟩
                      ·
                        exact absurd c353 (by omega)
                    ·
                      obtain ⟨p3410, hl, p341X, p341R⟩ := p341.1.resolve_left (fun q => absurd c352 q.1)
                      replace p341 := p341.2
                      refine V_aload_n 0 d_Mod_readLine_124 rfl rfl ?_
                      refine N_getK fa_Mod_102 sk_116 rfl d_Mod_readLine_125 o348K ?_
                      refine V_if_ne 149 o348E d_Mod_readLine_128 (by decide) (fun c367 => ?_) (fun c367 => ?_)
                      ·
                        exact absurd c367 (by omega)
                      ·
                        have g368 := x_cS_s b (x_en b (x_en b p0))
                        refine V_aload_n 0 d_Mod_readLine_131 rfl rfl ?_
                        refine V_aload_n 0 d_Mod_readLine_132 rfl rfl ?_
                        refine N_getK fa_Mod_130 sk_116 rfl d_Mod_readLine_133 o346K ?_
                        refine V_iconst 3 d_Mod_readLine_136 (by decide) ?_
                        refine V_icmp_ne 144 o346E tc_3 d_Mod_readLine_137 (by decide) (fun c369 => ?_) (fun c369 => ?_)
                        ·
                          refine V_iconst 0 d_Mod_readLine_144 (by decide) ?_
                          refine V_iconst 2 d_Mod_readLine_145 (by decide) ?_
                          refine N_callVV [.int 0, .int 2] [] cv_Mod_144 sk_116 rfl d_Mod_readLine_146 rfl (Nat.le_of_ble_eq_true rfl) (by decide) (by decide) (c_Mod_needsX h340 hI342 0 0 tc_0 2 2 tc_2 o345 o345Z o345E o345K o348 o348Z o348E o348K o349 o349Z o349E o349K) (fun h371 p372 => ?_)
                          obtain ⟨hI373, fh371, o375, o375Z, o375E, o375K, o376, o376Z, o376E, o376K, p372⟩ := p372
                          have f374 : fr S_Mod_readLineX h h371 := fr_call f343 fh371 rfl
                          refine V_aload_n 0 d_Mod_readLine_149 rfl rfl ?_
                          refine N_callVV [] [] cv_Mod_152 sk_116 rfl d_Mod_readLine_150 rfl (Nat.le_of_ble_eq_true rfl) (by decide) (by decide) (c_Mod_nextX h371 b hI373 s sZ sE (kn_call fh371 (kn_call fh340 (kn_call fh322 (kn_nei eh313 (kn_call fh304 (kn_call fh259 (kn_call fh250 sK rfl) rfl) rfl) (by decide)) rfl) rfl) rfl) o344 o344Z o344E (kn_call fh371 o344K rfl) o345 o345Z o345E (kn_call fh371 o345K rfl) o346 o346Z o346E (kn_call fh371 o346K rfl) o347 o347Z o347E (kn_call fh371 o347K rfl) o375 o375Z o375E o375K o376 o376Z o376E o376K (TP_fr f374 (fun _ => rfl) hy0) (by omega)) (fun h378 p379 => ?_)
                          obtain ⟨hI380, fh378, o382, o382Z, o382E, o382K, o383, o383Z, o383E, o383K, o384, o384Z, o384E, o384K, o385, o385Z, o385E, o385K, o386, o386Z, o386E, o386K, o387, o387Z, o387E, o387K, p379⟩ := p379
                          have f381 : fr S_Mod_readLineX h h378 := fr_call f374 fh378 rfl
                          have g388 : 0 ≤ o382Z ∧ o382Z ≤ 160 := inv_at hI380 o382E o382K.symm rfl
                          have g389 : 0 ≤ o383Z ∧ o383Z ≤ 160 := inv_at hI380 o383E o383K.symm rfl
                          exact V_vret rfl d_Mod_readLine_153 ⟨rfl, ⟨hI380, f381, o382, o382Z, o382E, o382K, o383, o383Z, o383E, o383K, o384, o384Z, o384E, o384K, o385, o385Z, o385E, o385K, o386, o386Z, o386E, o386K, o387, o387Z, o387E, o387K, ⟨Or.inl ⟨by omega, (x_line_6 rfl hH hL).trans (hl.trans ((x_sq_y (by omega)).trans (pq (by omega) (by omega))))⟩, by omega, by omega, by omega⟩⟩⟩
                        ·
                          refine V_iconst 1 d_Mod_readLine_140 (by decide) ?_
                          refine V_goto 145 d_Mod_readLine_141 (by decide) ?_
                          refine V_iconst 2 d_Mod_readLine_145 (by decide) ?_
                          refine N_callVV [.int 1, .int 2] [] cv_Mod_144 sk_116 rfl d_Mod_readLine_146 rfl (Nat.le_of_ble_eq_true rfl) (by decide) (by decide) (c_Mod_needsX h340 hI342 1 1 tc_1 2 2 tc_2 o345 o345Z o345E o345K o348 o348Z o348E o348K o349 o349Z o349E o349K) (fun h391 p392 => ?_)
                          obtain ⟨hI393, fh391, o395, o395Z, o395E, o395K, o396, o396Z, o396E, o396K, p392⟩ := p392
                          have f394 : fr S_Mod_readLineX h h391 := fr_call f343 fh391 rfl
                          have R397 : RM h391 (x_upT T 6 0) (x_up D 146 (x_vl b (x_en b p0))) := RM_fr fh391 rfl p341R
                          have g398 : x_fr b o344Z = x_fr b (x_en b (x_en b (x_en b p0))) := congrArg (x_fr b) (by omega)
                          have g399 : x_kd b o344Z = x_kd b (x_en b (x_en b (x_en b p0))) := congrArg (x_kd b) (by omega)
                          have g400 : x_en b o344Z = x_en b (x_en b (x_en b (x_en b p0))) := congrArg (x_en b) (by omega)
                          have g401 : x_vl b o344Z = x_vl b (x_en b (x_en b (x_en b p0))) := congrArg (x_vl b) (by omega)
                          have hmo := x_en_ge b (x_en b p0)
                          refine V_aload_n 0 d_Mod_readLine_149 rfl rfl ?_
                          refine N_callVV [] [] cv_Mod_152 sk_116 rfl d_Mod_readLine_150 rfl (Nat.le_of_ble_eq_true rfl) (by decide) (by decide) (c_Mod_nextX h391 b hI393 s sZ sE (kn_call fh391 (kn_call fh340 (kn_call fh322 (kn_nei eh313 (kn_call fh304 (kn_call fh259 (kn_call fh250 sK rfl) rfl) rfl) (by decide)) rfl) rfl) rfl) o344 o344Z o344E (kn_call fh391 o344K rfl) o345 o345Z o345E (kn_call fh391 o345K rfl) o346 o346Z o346E (kn_call fh391 o346K rfl) o347 o347Z o347E (kn_call fh391 o347K rfl) o395 o395Z o395E o395K o396 o396Z o396E o396K (TP_fr f394 (fun _ => rfl) hy0) (by omega)) (fun h403 p404 => ?_)
                          obtain ⟨hI405, fh403, o407, o407Z, o407E, o407K, o408, o408Z, o408E, o408K, o409, o409Z, o409E, o409K, o410, o410Z, o410E, o410K, o411, o411Z, o411E, o411K, o412, o412Z, o412E, o412K, p404⟩ := p404
                          have f406 : fr S_Mod_readLineX h h403 := fr_call f394 fh403 rfl
                          have R413 : RM h403 (x_upT T 6 0) (x_up D 146 (x_vl b (x_en b p0))) := RM_fr fh403 rfl R397
                          have g414 : 0 ≤ o407Z ∧ o407Z ≤ 160 := inv_at hI405 o407E o407K.symm rfl
                          have g415 : 0 ≤ o408Z ∧ o408Z ≤ 160 := inv_at hI405 o408E o408K.symm rfl
                          exact V_vret rfl d_Mod_readLine_153 ⟨rfl, ⟨hI405, f406, o407, o407Z, o407E, o407K, o408, o408Z, o408E, o408K, o409, o409Z, o409E, o409K, o410, o410Z, o410E, o410K, o411, o411Z, o411E, o411K, o412, o412Z, o412E, o412K, ⟨Or.inr ⟨x_en b (x_en b (x_en b p0)), (x_line_6 rfl hH hL).trans (hl.trans (x_sq_n (by omega))), by omega, by omega, (by rw [x_T_6 T (u := x_en b p0) rfl hL, x_D_6 D (u := x_en b p0) rfl hL]; exact R413), (if q9 : o411Z = 0 then Or.inr ⟨q9, by omega, by omega, by omega, by omega, by omega, by omega, by omega, by omega, by omega, by omega, by omega⟩ else Or.inl ⟨by omega, by omega, by omega⟩)⟩, by omega, by omega, by omega⟩⟩⟩
                  ·
                    exact absurd c338 (by omega)
        ·
          exact absurd c257 (by decide)
    ·
      obtain rfl : z41 = 2 := (ti_eq z41E tc_2).mpr c44
      subst c44
      have hL : x_li b p0 = 7 := by omega
      clear p43
      refine V_aload_n 0 d_Mod_readLine_18 rfl rfl ?_
      refine V_iload_n 1 d_Mod_readLine_19 rfl rfl ?_
      refine V_bipush (-4) d_Mod_readLine_20 (by decide) ?_
      refine V_icmp_eq 29 tc_2 tc_m4 d_Mod_readLine_22 (by decide) (fun c416 => ?_) (fun c416 => ?_)
      ·
        exact absurd c416 (by decide)
      ·
        refine V_iconst 1 d_Mod_readLine_25 (by decide) ?_
        refine V_goto 30 d_Mod_readLine_26 (by decide) ?_
        refine V_iconst 2 d_Mod_readLine_30 (by decide) ?_
        refine N_callVV [.int 1, .int 2] [] cv_Mod_144 sk_116 rfl d_Mod_readLine_31 rfl (Nat.le_of_ble_eq_true rfl) (by decide) (by decide) (c_Mod_needsX h hI 1 1 tc_1 2 2 tc_2 g gZ gE gK w wZ wE wK a aZ aE aK) (fun h418 p419 => ?_)
        obtain ⟨hI420, fh418, o422, o422Z, o422E, o422K, o423, o423Z, o423E, o423K, p419⟩ := p419
        have f421 : fr S_Mod_readLineX h h418 := fr_call f0 fh418 rfl
        have R424 : RM h418 T D := RM_fr fh418 rfl hy3
        refine V_aload_n 0 d_Mod_readLine_34 rfl rfl ?_
        refine V_iload_n 1 d_Mod_readLine_35 rfl rfl ?_
        refine V_bipush 9 d_Mod_readLine_36 (by decide) ?_
        refine V_icmp_ne 53 tc_2 tc_9 d_Mod_readLine_38 (by decide) (fun c425 => ?_) (fun c425 => ?_)
        ·
          refine V_iconst 1 d_Mod_readLine_53 (by decide) ?_
          refine V_goto 58 d_Mod_readLine_54 (by decide) ?_
          refine V_iconst 5 d_Mod_readLine_58 (by decide) ?_
          refine N_callVV [.int 1, .int 5] [] cv_Mod_144 sk_116 rfl d_Mod_readLine_59 rfl (Nat.le_of_ble_eq_true rfl) (by decide) (by decide) (c_Mod_needsX h418 hI420 1 1 tc_1 5 5 tc_5 g gZ gE (kn_call fh418 gK rfl) o422 o422Z o422E o422K o423 o423Z o423E o423K) (fun h427 p428 => ?_)
          obtain ⟨hI429, fh427, o431, o431Z, o431E, o431K, o432, o432Z, o432E, o432K, p428⟩ := p428
          have f430 : fr S_Mod_readLineX h h427 := fr_call f421 fh427 rfl
          have R433 : RM h427 T D := RM_fr fh427 rfl R424
          refine V_aload_n 0 d_Mod_readLine_62 rfl rfl ?_
          refine N_getK fa_Mod_102 sk_116 rfl d_Mod_readLine_63 o431K ?_
          refine V_if_ne 107 o431E d_Mod_readLine_66 (by decide) (fun c434 => ?_) (fun c434 => ?_)
          ·
            exact absurd c434 (by omega)
          ·
            refine V_iload_n 1 d_Mod_readLine_69 rfl rfl ?_
            refine V_iconst 3 d_Mod_readLine_70 (by decide) ?_
            refine V_icmp_gt 107 tc_2 tc_3 d_Mod_readLine_71 (by decide) (fun c435 => ?_) (fun c435 => ?_)
            ·
              exact absurd c435 (by decide)
            ·
              refine V_aload_n 0 d_Mod_readLine_74 rfl rfl ?_
              refine V_aload_n 0 d_Mod_readLine_75 rfl rfl ?_
              refine N_getK fa_Mod_75 sk_116 rfl d_Mod_readLine_76 (kn_call fh427 (kn_call fh418 oK rfl) rfl) ?_
              refine V_iload_n 1 d_Mod_readLine_79 rfl rfl ?_
              refine N_ishr d_Mod_readLine_80 (fun z436 z436Z z436E z436e => ?_)
              refine V_iconst 1 d_Mod_readLine_81 (by decide) ?_
              refine N_iand d_Mod_readLine_82 (fun z437 z437Z z437E z437e => ?_)
              have g438 : z437Z = x_told T 2 := x_bt_of (RM_told R433 (kn_call fh427 (kn_call fh418 oK rfl) rfl)) (by omega) (by omega) tc_2 z437E (by assumption) (by assumption)
              have g439 : x_told T 2 = T 7 0 := by simp [x_told]
              refine V_if_ne 90 z437E d_Mod_readLine_83 (by decide) (fun c440 => ?_) (fun c440 => ?_)
              ·
                refine V_iconst 0 d_Mod_readLine_90 (by decide) ?_
                refine V_iconst 4 d_Mod_readLine_91 (by decide) ?_
                refine N_callVV [.int 0, .int 4] [] cv_Mod_144 sk_116 rfl d_Mod_readLine_92 rfl (Nat.le_of_ble_eq_true rfl) (by decide) (by decide) (c_Mod_needsX h427 hI429 0 0 tc_0 4 4 tc_4 g gZ gE (kn_call fh427 (kn_call fh418 gK rfl) rfl) o431 o431Z o431E o431K o432 o432Z o432E o432K) (fun h442 p443 => ?_)
                obtain ⟨hI444, fh442, o446, o446Z, o446E, o446K, o447, o447Z, o447E, o447K, p443⟩ := p443
                have f445 : fr S_Mod_readLineX h h442 := fr_call f430 fh442 rfl
                refine V_aload_n 0 d_Mod_readLine_95 rfl rfl ?_
                refine V_dup d_Mod_readLine_96 rfl ?_
                refine N_getK fa_Mod_75 sk_116 rfl d_Mod_readLine_97 (kn_call fh442 (kn_call fh427 (kn_call fh418 oK rfl) rfl) rfl) ?_
                refine V_iconst 1 d_Mod_readLine_100 (by decide) ?_
                refine V_iload_n 1 d_Mod_readLine_101 rfl rfl ?_
                refine N_ishl d_Mod_readLine_102 (fun z448 z448Z z448E z448e => ?_)
                refine N_ior d_Mod_readLine_103 (fun z449 z449Z z449E z449e => ?_)
                refine N_putI fp_Mod_75 sk_116 rfl d_Mod_readLine_104 (fun h450 eh450 => ?_)
                have hI451 : Inv h450 := inv_full hI444 eh450 rfl
                have f452 : fr S_Mod_readLineX h h450 := fr_put f445 eh450 rfl
                have g453 : x_fr b pZ = x_fr b (x_en b p0) := congrArg (x_fr b) (by omega)
                have g454 : x_kd b pZ = x_kd b (x_en b p0) := congrArg (x_kd b) (by omega)
                have g455 : x_en b pZ = x_en b (x_en b p0) := congrArg (x_en b) (by omega)
                have g456 : x_vl b pZ = x_vl b (x_en b p0) := congrArg (x_vl b) (by omega)
                refine V_aload_n 0 d_Mod_readLine_107 rfl rfl ?_
                refine N_callVV [] [] cv_Mod_152 sk_116 rfl d_Mod_readLine_108 rfl (Nat.le_of_ble_eq_true rfl) (by decide) (by decide) (c_Mod_nextX h450 b hI451 s sZ sE (kn_nei eh450 (kn_call fh442 (kn_call fh427 (kn_call fh418 sK rfl) rfl) rfl) (by decide)) p pZ pE (kn_nei eh450 (kn_call fh442 (kn_call fh427 (kn_call fh418 pK rfl) rfl) rfl) (by decide)) g gZ gE (kn_nei eh450 (kn_call fh442 (kn_call fh427 (kn_call fh418 gK rfl) rfl) rfl) (by decide)) k kZ kE (kn_nei eh450 (kn_call fh442 (kn_call fh427 (kn_call fh418 kK rfl) rfl) rfl) (by decide)) v vZ vE (kn_nei eh450 (kn_call fh442 (kn_call fh427 (kn_call fh418 vK rfl) rfl) rfl) (by decide)) o446 o446Z o446E (kn_nei eh450 o446K (by decide)) o447 o447Z o447E (kn_nei eh450 o447K (by decide)) (TP_fr f452 (fun _ => rfl) hy0) (by omega)) (fun h458 p459 => ?_)
                obtain ⟨hI460, fh458, o462, o462Z, o462E, o462K, o463, o463Z, o463E, o463K, o464, o464Z, o464E, o464K, o465, o465Z, o465E, o465K, o466, o466Z, o466E, o466K, o467, o467Z, o467E, o467K, p459⟩ := p459
                have f461 : fr S_Mod_readLineX h h458 := fr_call f452 fh458 rfl
                have g468 : 0 ≤ o462Z ∧ o462Z ≤ 160 := inv_at hI460 o462E o462K.symm rfl
                have g469 : 0 ≤ o463Z ∧ o463Z ≤ 160 := inv_at hI460 o463E o463K.symm rfl
                refine V_aload_n 0 d_Mod_readLine_111 rfl rfl ?_
                refine N_getK fa_Mod_102 sk_116 rfl d_Mod_readLine_112 o466K ?_
                refine V_if_le 119 o466E d_Mod_readLine_115 (by decide) (fun c470 => ?_) (fun c470 => ?_)
                ·
                  exact absurd c470 (by omega)
                ·
                  exact V_vret rfl d_Mod_readLine_118 ⟨rfl, ⟨hI460, f461, o462, o462Z, o462E, o462K, o463, o463Z, o463E, o463K, o464, o464Z, o464E, o464K, o465, o465Z, o465E, o465K, o466, o466Z, o466E, o466K, o467, o467Z, o467E, o467K, ⟨Or.inl ⟨by omega, (by have q := x_cH_s b T (D 86) p0; exact (x_line_H (by omega)).trans (pq (by omega) (by omega)))⟩, by omega, by omega, by omega⟩⟩⟩
              ·
                refine V_iconst 1 d_Mod_readLine_86 (by decide) ?_
                refine V_goto 91 d_Mod_readLine_87 (by decide) ?_
                refine V_iconst 4 d_Mod_readLine_91 (by decide) ?_
                refine N_callVV [.int 1, .int 4] [] cv_Mod_144 sk_116 rfl d_Mod_readLine_92 rfl (Nat.le_of_ble_eq_true rfl) (by decide) (by decide) (c_Mod_needsX h427 hI429 1 1 tc_1 4 4 tc_4 g gZ gE (kn_call fh427 (kn_call fh418 gK rfl) rfl) o431 o431Z o431E o431K o432 o432Z o432E o432K) (fun h472 p473 => ?_)
                obtain ⟨hI474, fh472, o476, o476Z, o476E, o476K, o477, o477Z, o477E, o477K, p473⟩ := p473
                have f475 : fr S_Mod_readLineX h h472 := fr_call f430 fh472 rfl
                have R478 : RM h472 T D := RM_fr fh472 rfl R433
                refine V_aload_n 0 d_Mod_readLine_95 rfl rfl ?_
                refine V_dup d_Mod_readLine_96 rfl ?_
                refine N_getK fa_Mod_75 sk_116 rfl d_Mod_readLine_97 (kn_call fh472 (kn_call fh427 (kn_call fh418 oK rfl) rfl) rfl) ?_
                refine V_iconst 1 d_Mod_readLine_100 (by decide) ?_
                refine V_iload_n 1 d_Mod_readLine_101 rfl rfl ?_
                refine N_ishl d_Mod_readLine_102 (fun z479 z479Z z479E z479e => ?_)
                refine N_ior d_Mod_readLine_103 (fun z480 z480Z z480E z480e => ?_)
                refine N_putI fp_Mod_75 sk_116 rfl d_Mod_readLine_104 (fun h481 eh481 => ?_)
                have hI482 : Inv h481 := inv_full hI474 eh481 rfl
                have f483 : fr S_Mod_readLineX h h481 := fr_put f475 eh481 rfl
                have R484 : RM h481 (x_upT T 7 0) D := RM_once R478 eh481 (kn_call fh472 (kn_call fh427 (kn_call fh418 oK rfl) rfl) rfl) tc_2 (by assumption) (by assumption) (by decide)
                have g485 : x_fr b pZ = x_fr b (x_en b p0) := congrArg (x_fr b) (by omega)
                have g486 : x_kd b pZ = x_kd b (x_en b p0) := congrArg (x_kd b) (by omega)
                have g487 : x_en b pZ = x_en b (x_en b p0) := congrArg (x_en b) (by omega)
                have g488 : x_vl b pZ = x_vl b (x_en b p0) := congrArg (x_vl b) (by omega)
                refine V_aload_n 0 d_Mod_readLine_107 rfl rfl ?_
                refine N_callVV [] [] cv_Mod_152 sk_116 rfl d_Mod_readLine_108 rfl (Nat.le_of_ble_eq_true rfl) (by decide) (by decide) (c_Mod_nextX h481 b hI482 s sZ sE (kn_nei eh481 (kn_call fh472 (kn_call fh427 (kn_call fh418 sK rfl) rfl) rfl) (by decide)) p pZ pE (kn_nei eh481 (kn_call fh472 (kn_call fh427 (kn_call fh418 pK rfl) rfl) rfl) (by decide)) g gZ gE (kn_nei eh481 (kn_call fh472 (kn_call fh427 (kn_call fh418 gK rfl) rfl) rfl) (by decide)) k kZ kE (kn_nei eh481 (kn_call fh472 (kn_call fh427 (kn_call fh418 kK rfl) rfl) rfl) (by decide)) v vZ vE (kn_nei eh481 (kn_call fh472 (kn_call fh427 (kn_call fh418 vK rfl) rfl) rfl) (by decide)) o476 o476Z o476E (kn_nei eh481 o476K (by decide)) o477 o477Z o477E (kn_nei eh481 o477K (by decide)) (TP_fr f483 (fun _ => rfl) hy0) (by omega)) (fun h490 p491 => ?_)
                obtain ⟨hI492, fh490, o494, o494Z, o494E, o494K, o495, o495Z, o495E, o495K, o496, o496Z, o496E, o496K, o497, o497Z, o497E, o497K, o498, o498Z, o498E, o498K, o499, o499Z, o499E, o499K, p491⟩ := p491
                have f493 : fr S_Mod_readLineX h h490 := fr_call f483 fh490 rfl
                have R500 : RM h490 (x_upT T 7 0) D := RM_fr fh490 rfl R484
                have g501 : 0 ≤ o494Z ∧ o494Z ≤ 160 := inv_at hI492 o494E o494K.symm rfl
                have g502 : 0 ≤ o495Z ∧ o495Z ≤ 160 := inv_at hI492 o495E o495K.symm rfl
                rcases (by omega : o498Z ≠ 0 ∨ o498Z = 0) with c503 | c503
                ·
                  replace p491 := p491.resolve_left (fun q => by omega)
                  have hH : x_cH b T (D 86) p0 = 0 := by have q := x_cH_s b T (D 86) p0; omega
                  have g504 := x_cN_s b (x_en b p0) 1 99
                  refine V_aload_n 0 d_Mod_readLine_111 rfl rfl ?_
                  refine N_getK fa_Mod_102 sk_116 rfl d_Mod_readLine_112 o498K ?_
                  refine V_if_le 119 o498E d_Mod_readLine_115 (by decide) (fun c505 => ?_) (fun c505 => ?_)
                  ·
                    exact absurd c505 (by omega)
                  ·
                    exact V_vret rfl d_Mod_readLine_118 ⟨rfl, ⟨hI492, f493, o494, o494Z, o494E, o494K, o495, o495Z, o495E, o495K, o496, o496Z, o496E, o496K, o497, o497Z, o497E, o497K, o498, o498Z, o498E, o498K, o499, o499Z, o499E, o499K, ⟨Or.inl ⟨by omega, (x_line_7 rfl hH hL).trans ((show x_l7 b T (x_en b p0) = (x_cN b (x_en b p0) 1 99, x_fr b (x_en b p0)) from by unfold x_l7; rw [x_sq_y (c := x_cN b (x_en b p0) 1 99) (by omega)]).trans (pq (by omega) (by omega)))⟩, by omega, by omega, by omega⟩⟩⟩
                ·
                  replace p491 := p491.resolve_left (fun q => by omega)
                  have hH : x_cH b T (D 86) p0 = 0 := by have q := x_cH_s b T (D 86) p0; omega
                  refine V_aload_n 0 d_Mod_readLine_111 rfl rfl ?_
                  refine N_getK fa_Mod_102 sk_116 rfl d_Mod_readLine_112 o498K ?_
                  refine V_if_le 119 o498E d_Mod_readLine_115 (by decide) (fun c506 => ?_) (fun c506 => ?_)
                  ·
                    refine V_aload_n 0 d_Mod_readLine_119 rfl rfl ?_
                    refine V_iload_n 1 d_Mod_readLine_120 rfl rfl ?_
                    refine N_callVV [.int 2] [] cv_Mod_177 sk_116 rfl d_Mod_readLine_121 rfl (Nat.le_of_ble_eq_true rfl) (by decide) (by decide) (c_Mod_readLineOfX_2 h490 b (x_upT T 7 0) D (x_en b p0) hI492 s sZ sE (kn_call fh490 (kn_nei eh481 (kn_call fh472 (kn_call fh427 (kn_call fh418 sK rfl) rfl) rfl) (by decide)) rfl) o494 o494Z o494E o494K o495 o495Z o495E o495K o496 o496Z o496E o496K o497 o497Z o497E o497K o498 o498Z o498E o498K o499 o499Z o499E o499K (TP_fr f493 (fun _ => rfl) hy0) (by omega) ⟨by omega, by omega, by omega, by omega, by omega, by omega, by omega, by omega, by omega, by omega, by omega⟩ R500) (fun h508 p509 => ?_)
                    obtain ⟨hI510, fh508, o512, o512Z, o512E, o512K, o513, o513Z, o513E, o513K, o514, o514Z, o514E, o514K, o515, o515Z, o515E, o515K, o516, o516Z, o516E, o516K, o517, o517Z, o517E, o517K, p509⟩ := p509
                    have f511 : fr S_Mod_readLineX h h508 := fr_call f493 fh508 rfl
                    have g518 : 0 ≤ o512Z ∧ o512Z ≤ 160 := inv_at hI510 o512E o512K.symm rfl
                    have g519 : 0 ≤ o513Z ∧ o513Z ≤ 160 := inv_at hI510 o513E o513K.symm rfl
                    rcases (by omega : o516Z ≠ 0 ∨ o516Z = 0) with c520 | c520
                    ·
                      obtain ⟨hq0, hq⟩ := p509.1.resolve_right (fun q => absurd q.1 c520)
                      replace p509 := p509.2
                      refine V_aload_n 0 d_Mod_readLine_124 rfl rfl ?_
                      refine N_getK fa_Mod_102 sk_116 rfl d_Mod_readLine_125 o516K ?_
                      refine V_if_ne 149 o516E d_Mod_readLine_128 (by decide) (fun c521 => ?_) (fun c521 => ?_)
                      ·
                        refine V_aload_n 0 d_Mod_readLine_149 rfl rfl ?_
                        refine N_callVV [] [] cv_Mod_152 sk_116 rfl d_Mod_readLine_150 rfl (Nat.le_of_ble_eq_true rfl) (by decide) (by decide) (c_Mod_nextX h508 b hI510 s sZ sE (kn_call fh508 (kn_call fh490 (kn_nei eh481 (kn_call fh472 (kn_call fh427 (kn_call fh418 sK rfl) rfl) rfl) (by decide)) rfl) rfl) o512 o512Z o512E o512K o513 o513Z o513E o513K o514 o514Z o514E o514K o515 o515Z o515E o515K o516 o516Z o516E o516K o517 o517Z o517E o517K (TP_fr f511 (fun _ => rfl) hy0) (by omega)) (fun h523 p524 => ?_)
                        obtain ⟨hI525, fh523, o527, o527Z, o527E, o527K, o528, o528Z, o528E, o528K, o529, o529Z, o529E, o529K, o530, o530Z, o530E, o530K, o531, o531Z, o531E, o531K, o532, o532Z, o532E, o532K, p524⟩ := p524
                        have f526 : fr S_Mod_readLineX h h523 := fr_call f511 fh523 rfl
                        have g533 : 0 ≤ o527Z ∧ o527Z ≤ 160 := inv_at hI525 o527E o527K.symm rfl
                        have g534 : 0 ≤ o528Z ∧ o528Z ≤ 160 := inv_at hI525 o528E o528K.symm rfl
                        exact V_vret rfl d_Mod_readLine_153 ⟨rfl, ⟨hI525, f526, o527, o527Z, o527E, o527K, o528, o528Z, o528E, o528K, o529, o529Z, o529E, o529K, o530, o530Z, o530E, o530K, o531, o531Z, o531E, o531K, o532, o532Z, o532E, o532K, ⟨Or.inl ⟨by omega, (x_line_7 rfl hH hL).trans (hq.trans (pq (by omega) (by omega)))⟩, by omega, by omega, by omega⟩⟩⟩
                      ·
                        exact absurd c521 (by omega)
                    ·
                      obtain ⟨p5090, hl, p509X, p509R⟩ := p509.1.resolve_left (fun q => absurd c520 q.1)
                      replace p509 := p509.2
                      refine V_aload_n 0 d_Mod_readLine_124 rfl rfl ?_
                      refine N_getK fa_Mod_102 sk_116 rfl d_Mod_readLine_125 o516K ?_
                      refine V_if_ne 149 o516E d_Mod_readLine_128 (by decide) (fun c535 => ?_) (fun c535 => ?_)
                      ·
                        exact absurd c535 (by omega)
                      ·
                        have g536 := x_cS_s b (x_en b (x_en b p0))
                        refine V_aload_n 0 d_Mod_readLine_131 rfl rfl ?_
                        refine V_aload_n 0 d_Mod_readLine_132 rfl rfl ?_
                        refine N_getK fa_Mod_130 sk_116 rfl d_Mod_readLine_133 o514K ?_
                        refine V_iconst 3 d_Mod_readLine_136 (by decide) ?_
                        refine V_icmp_ne 144 o514E tc_3 d_Mod_readLine_137 (by decide) (fun c537 => ?_) (fun c537 => ?_)
                        ·
                          refine V_iconst 0 d_Mod_readLine_144 (by decide) ?_
                          refine V_iconst 2 d_Mod_readLine_145 (by decide) ?_
                          refine N_callVV [.int 0, .int 2] [] cv_Mod_144 sk_116 rfl d_Mod_readLine_146 rfl (Nat.le_of_ble_eq_true rfl) (by decide) (by decide) (c_Mod_needsX h508 hI510 0 0 tc_0 2 2 tc_2 o513 o513Z o513E o513K o516 o516Z o516E o516K o517 o517Z o517E o517K) (fun h539 p540 => ?_)
                          obtain ⟨hI541, fh539, o543, o543Z, o543E, o543K, o544, o544Z, o544E, o544K, p540⟩ := p540
                          have f542 : fr S_Mod_readLineX h h539 := fr_call f511 fh539 rfl
                          refine V_aload_n 0 d_Mod_readLine_149 rfl rfl ?_
                          refine N_callVV [] [] cv_Mod_152 sk_116 rfl d_Mod_readLine_150 rfl (Nat.le_of_ble_eq_true rfl) (by decide) (by decide) (c_Mod_nextX h539 b hI541 s sZ sE (kn_call fh539 (kn_call fh508 (kn_call fh490 (kn_nei eh481 (kn_call fh472 (kn_call fh427 (kn_call fh418 sK rfl) rfl) rfl) (by decide)) rfl) rfl) rfl) o512 o512Z o512E (kn_call fh539 o512K rfl) o513 o513Z o513E (kn_call fh539 o513K rfl) o514 o514Z o514E (kn_call fh539 o514K rfl) o515 o515Z o515E (kn_call fh539 o515K rfl) o543 o543Z o543E o543K o544 o544Z o544E o544K (TP_fr f542 (fun _ => rfl) hy0) (by omega)) (fun h546 p547 => ?_)
                          obtain ⟨hI548, fh546, o550, o550Z, o550E, o550K, o551, o551Z, o551E, o551K, o552, o552Z, o552E, o552K, o553, o553Z, o553E, o553K, o554, o554Z, o554E, o554K, o555, o555Z, o555E, o555K, p547⟩ := p547
                          have f549 : fr S_Mod_readLineX h h546 := fr_call f542 fh546 rfl
                          have g556 : 0 ≤ o550Z ∧ o550Z ≤ 160 := inv_at hI548 o550E o550K.symm rfl
                          have g557 : 0 ≤ o551Z ∧ o551Z ≤ 160 := inv_at hI548 o551E o551K.symm rfl
                          exact V_vret rfl d_Mod_readLine_153 ⟨rfl, ⟨hI548, f549, o550, o550Z, o550E, o550K, o551, o551Z, o551E, o551K, o552, o552Z, o552E, o552K, o553, o553Z, o553E, o553K, o554, o554Z, o554E, o554K, o555, o555Z, o555E, o555K, ⟨Or.inl ⟨by omega, (x_line_7 rfl hH hL).trans (hl.trans ((x_sq_y (by omega)).trans (pq (by omega) (by omega))))⟩, by omega, by omega, by omega⟩⟩⟩
                        ·
                          refine V_iconst 1 d_Mod_readLine_140 (by decide) ?_
                          refine V_goto 145 d_Mod_readLine_141 (by decide) ?_
                          refine V_iconst 2 d_Mod_readLine_145 (by decide) ?_
                          refine N_callVV [.int 1, .int 2] [] cv_Mod_144 sk_116 rfl d_Mod_readLine_146 rfl (Nat.le_of_ble_eq_true rfl) (by decide) (by decide) (c_Mod_needsX h508 hI510 1 1 tc_1 2 2 tc_2 o513 o513Z o513E o513K o516 o516Z o516E o516K o517 o517Z o517E o517K) (fun h559 p560 => ?_)
                          obtain ⟨hI561, fh559, o563, o563Z, o563E, o563K, o564, o564Z, o564E, o564K, p560⟩ := p560
                          have f562 : fr S_Mod_readLineX h h559 := fr_call f511 fh559 rfl
                          have R565 : RM h559 (x_upT T 7 0) (x_up D 147 (x_vl b (x_en b p0))) := RM_fr fh559 rfl p509R
                          have g566 : x_fr b o512Z = x_fr b (x_en b (x_en b (x_en b p0))) := congrArg (x_fr b) (by omega)
                          have g567 : x_kd b o512Z = x_kd b (x_en b (x_en b (x_en b p0))) := congrArg (x_kd b) (by omega)
                          have g568 : x_en b o512Z = x_en b (x_en b (x_en b (x_en b p0))) := congrArg (x_en b) (by omega)
                          have g569 : x_vl b o512Z = x_vl b (x_en b (x_en b (x_en b p0))) := congrArg (x_vl b) (by omega)
                          have hmo := x_en_ge b (x_en b p0)
                          refine V_aload_n 0 d_Mod_readLine_149 rfl rfl ?_
                          refine N_callVV [] [] cv_Mod_152 sk_116 rfl d_Mod_readLine_150 rfl (Nat.le_of_ble_eq_true rfl) (by decide) (by decide) (c_Mod_nextX h559 b hI561 s sZ sE (kn_call fh559 (kn_call fh508 (kn_call fh490 (kn_nei eh481 (kn_call fh472 (kn_call fh427 (kn_call fh418 sK rfl) rfl) rfl) (by decide)) rfl) rfl) rfl) o512 o512Z o512E (kn_call fh559 o512K rfl) o513 o513Z o513E (kn_call fh559 o513K rfl) o514 o514Z o514E (kn_call fh559 o514K rfl) o515 o515Z o515E (kn_call fh559 o515K rfl) o563 o563Z o563E o563K o564 o564Z o564E o564K (TP_fr f562 (fun _ => rfl) hy0) (by omega)) (fun h571 p572 => ?_)
                          obtain ⟨hI573, fh571, o575, o575Z, o575E, o575K, o576, o576Z, o576E, o576K, o577, o577Z, o577E, o577K, o578, o578Z, o578E, o578K, o579, o579Z, o579E, o579K, o580, o580Z, o580E, o580K, p572⟩ := p572
                          have f574 : fr S_Mod_readLineX h h571 := fr_call f562 fh571 rfl
                          have R581 : RM h571 (x_upT T 7 0) (x_up D 147 (x_vl b (x_en b p0))) := RM_fr fh571 rfl R565
                          have g582 : 0 ≤ o575Z ∧ o575Z ≤ 160 := inv_at hI573 o575E o575K.symm rfl
                          have g583 : 0 ≤ o576Z ∧ o576Z ≤ 160 := inv_at hI573 o576E o576K.symm rfl
                          exact V_vret rfl d_Mod_readLine_153 ⟨rfl, ⟨hI573, f574, o575, o575Z, o575E, o575K, o576, o576Z, o576E, o576K, o577, o577Z, o577E, o577K, o578, o578Z, o578E, o578K, o579, o579Z, o579E, o579K, o580, o580Z, o580E, o580K, ⟨Or.inr ⟨x_en b (x_en b (x_en b p0)), (x_line_7 rfl hH hL).trans (hl.trans (x_sq_n (by omega))), by omega, by omega, (by rw [x_T_7 T (u := x_en b p0) rfl hL, x_D_7 D (u := x_en b p0) rfl hL]; exact R581), (if q9 : o579Z = 0 then Or.inr ⟨q9, by omega, by omega, by omega, by omega, by omega, by omega, by omega, by omega, by omega, by omega, by omega⟩ else Or.inl ⟨by omega, by omega, by omega⟩)⟩, by omega, by omega, by omega⟩⟩⟩
                  ·
                    exact absurd c506 (by omega)
        ·
          exact absurd c425 (by decide)
    ·
      obtain rfl : z41 = 3 := (ti_eq z41E tc_3).mpr c44
      subst c44
      have hL : x_li b p0 = 8 := by omega
      clear p43
      refine V_aload_n 0 d_Mod_readLine_18 rfl rfl ?_
      refine V_iload_n 1 d_Mod_readLine_19 rfl rfl ?_
      refine V_bipush (-4) d_Mod_readLine_20 (by decide) ?_
      refine V_icmp_eq 29 tc_3 tc_m4 d_Mod_readLine_22 (by decide) (fun c584 => ?_) (fun c584 => ?_)
      ·
        exact absurd c584 (by decide)
      ·
        refine V_iconst 1 d_Mod_readLine_25 (by decide) ?_
        refine V_goto 30 d_Mod_readLine_26 (by decide) ?_
        refine V_iconst 2 d_Mod_readLine_30 (by decide) ?_
        refine N_callVV [.int 1, .int 2] [] cv_Mod_144 sk_116 rfl d_Mod_readLine_31 rfl (Nat.le_of_ble_eq_true rfl) (by decide) (by decide) (c_Mod_needsX h hI 1 1 tc_1 2 2 tc_2 g gZ gE gK w wZ wE wK a aZ aE aK) (fun h586 p587 => ?_)
        obtain ⟨hI588, fh586, o590, o590Z, o590E, o590K, o591, o591Z, o591E, o591K, p587⟩ := p587
        have f589 : fr S_Mod_readLineX h h586 := fr_call f0 fh586 rfl
        have R592 : RM h586 T D := RM_fr fh586 rfl hy3
        refine V_aload_n 0 d_Mod_readLine_34 rfl rfl ?_
        refine V_iload_n 1 d_Mod_readLine_35 rfl rfl ?_
        refine V_bipush 9 d_Mod_readLine_36 (by decide) ?_
        refine V_icmp_ne 53 tc_3 tc_9 d_Mod_readLine_38 (by decide) (fun c593 => ?_) (fun c593 => ?_)
        ·
          refine V_iconst 1 d_Mod_readLine_53 (by decide) ?_
          refine V_goto 58 d_Mod_readLine_54 (by decide) ?_
          refine V_iconst 5 d_Mod_readLine_58 (by decide) ?_
          refine N_callVV [.int 1, .int 5] [] cv_Mod_144 sk_116 rfl d_Mod_readLine_59 rfl (Nat.le_of_ble_eq_true rfl) (by decide) (by decide) (c_Mod_needsX h586 hI588 1 1 tc_1 5 5 tc_5 g gZ gE (kn_call fh586 gK rfl) o590 o590Z o590E o590K o591 o591Z o591E o591K) (fun h595 p596 => ?_)
          obtain ⟨hI597, fh595, o599, o599Z, o599E, o599K, o600, o600Z, o600E, o600K, p596⟩ := p596
          have f598 : fr S_Mod_readLineX h h595 := fr_call f589 fh595 rfl
          have R601 : RM h595 T D := RM_fr fh595 rfl R592
          refine V_aload_n 0 d_Mod_readLine_62 rfl rfl ?_
          refine N_getK fa_Mod_102 sk_116 rfl d_Mod_readLine_63 o599K ?_
          refine V_if_ne 107 o599E d_Mod_readLine_66 (by decide) (fun c602 => ?_) (fun c602 => ?_)
          ·
            exact absurd c602 (by omega)
          ·
            refine V_iload_n 1 d_Mod_readLine_69 rfl rfl ?_
            refine V_iconst 3 d_Mod_readLine_70 (by decide) ?_
            refine V_icmp_gt 107 tc_3 tc_3 d_Mod_readLine_71 (by decide) (fun c603 => ?_) (fun c603 => ?_)
            ·
              exact absurd c603 (by decide)
            ·
              refine V_aload_n 0 d_Mod_readLine_74 rfl rfl ?_
              refine V_aload_n 0 d_Mod_readLine_75 rfl rfl ?_
              refine N_getK fa_Mod_75 sk_116 rfl d_Mod_readLine_76 (kn_call fh595 (kn_call fh586 oK rfl) rfl) ?_
              refine V_iload_n 1 d_Mod_readLine_79 rfl rfl ?_
              refine N_ishr d_Mod_readLine_80 (fun z604 z604Z z604E z604e => ?_)
              refine V_iconst 1 d_Mod_readLine_81 (by decide) ?_
              refine N_iand d_Mod_readLine_82 (fun z605 z605Z z605E z605e => ?_)
              have g606 : z605Z = x_told T 3 := x_bt_of (RM_told R601 (kn_call fh595 (kn_call fh586 oK rfl) rfl)) (by omega) (by omega) tc_3 z605E (by assumption) (by assumption)
              have g607 : x_told T 3 = T 8 0 := by simp [x_told]
              refine V_if_ne 90 z605E d_Mod_readLine_83 (by decide) (fun c608 => ?_) (fun c608 => ?_)
              ·
                refine V_iconst 0 d_Mod_readLine_90 (by decide) ?_
                refine V_iconst 4 d_Mod_readLine_91 (by decide) ?_
                refine N_callVV [.int 0, .int 4] [] cv_Mod_144 sk_116 rfl d_Mod_readLine_92 rfl (Nat.le_of_ble_eq_true rfl) (by decide) (by decide) (c_Mod_needsX h595 hI597 0 0 tc_0 4 4 tc_4 g gZ gE (kn_call fh595 (kn_call fh586 gK rfl) rfl) o599 o599Z o599E o599K o600 o600Z o600E o600K) (fun h610 p611 => ?_)
                obtain ⟨hI612, fh610, o614, o614Z, o614E, o614K, o615, o615Z, o615E, o615K, p611⟩ := p611
                have f613 : fr S_Mod_readLineX h h610 := fr_call f598 fh610 rfl
                refine V_aload_n 0 d_Mod_readLine_95 rfl rfl ?_
                refine V_dup d_Mod_readLine_96 rfl ?_
                refine N_getK fa_Mod_75 sk_116 rfl d_Mod_readLine_97 (kn_call fh610 (kn_call fh595 (kn_call fh586 oK rfl) rfl) rfl) ?_
                refine V_iconst 1 d_Mod_readLine_100 (by decide) ?_
                refine V_iload_n 1 d_Mod_readLine_101 rfl rfl ?_
                refine N_ishl d_Mod_readLine_102 (fun z616 z616Z z616E z616e => ?_)
                refine N_ior d_Mod_readLine_103 (fun z617 z617Z z617E z617e => ?_)
                refine N_putI fp_Mod_75 sk_116 rfl d_Mod_readLine_104 (fun h618 eh618 => ?_)
                have hI619 : Inv h618 := inv_full hI612 eh618 rfl
                have f620 : fr S_Mod_readLineX h h618 := fr_put f613 eh618 rfl
                have g621 : x_fr b pZ = x_fr b (x_en b p0) := congrArg (x_fr b) (by omega)
                have g622 : x_kd b pZ = x_kd b (x_en b p0) := congrArg (x_kd b) (by omega)
                have g623 : x_en b pZ = x_en b (x_en b p0) := congrArg (x_en b) (by omega)
                have g624 : x_vl b pZ = x_vl b (x_en b p0) := congrArg (x_vl b) (by omega)
                refine V_aload_n 0 d_Mod_readLine_107 rfl rfl ?_
                refine N_callVV [] [] cv_Mod_152 sk_116 rfl d_Mod_readLine_108 rfl (Nat.le_of_ble_eq_true rfl) (by decide) (by decide) (c_Mod_nextX h618 b hI619 s sZ sE (kn_nei eh618 (kn_call fh610 (kn_call fh595 (kn_call fh586 sK rfl) rfl) rfl) (by decide)) p pZ pE (kn_nei eh618 (kn_call fh610 (kn_call fh595 (kn_call fh586 pK rfl) rfl) rfl) (by decide)) g gZ gE (kn_nei eh618 (kn_call fh610 (kn_call fh595 (kn_call fh586 gK rfl) rfl) rfl) (by decide)) k kZ kE (kn_nei eh618 (kn_call fh610 (kn_call fh595 (kn_call fh586 kK rfl) rfl) rfl) (by decide)) v vZ vE (kn_nei eh618 (kn_call fh610 (kn_call fh595 (kn_call fh586 vK rfl) rfl) rfl) (by decide)) o614 o614Z o614E (kn_nei eh618 o614K (by decide)) o615 o615Z o615E (kn_nei eh618 o615K (by decide)) (TP_fr f620 (fun _ => rfl) hy0) (by omega)) (fun h626 p627 => ?_)
                obtain ⟨hI628, fh626, o630, o630Z, o630E, o630K, o631, o631Z, o631E, o631K, o632, o632Z, o632E, o632K, o633, o633Z, o633E, o633K, o634, o634Z, o634E, o634K, o635, o635Z, o635E, o635K, p627⟩ := p627
                have f629 : fr S_Mod_readLineX h h626 := fr_call f620 fh626 rfl
                have g636 : 0 ≤ o630Z ∧ o630Z ≤ 160 := inv_at hI628 o630E o630K.symm rfl
                have g637 : 0 ≤ o631Z ∧ o631Z ≤ 160 := inv_at hI628 o631E o631K.symm rfl
                refine V_aload_n 0 d_Mod_readLine_111 rfl rfl ?_
                refine N_getK fa_Mod_102 sk_116 rfl d_Mod_readLine_112 o634K ?_
                refine V_if_le 119 o634E d_Mod_readLine_115 (by decide) (fun c638 => ?_) (fun c638 => ?_)
                ·
                  exact absurd c638 (by omega)
                ·
                  exact V_vret rfl d_Mod_readLine_118 ⟨rfl, ⟨hI628, f629, o630, o630Z, o630E, o630K, o631, o631Z, o631E, o631K, o632, o632Z, o632E, o632K, o633, o633Z, o633E, o633K, o634, o634Z, o634E, o634K, o635, o635Z, o635E, o635K, ⟨Or.inl ⟨by omega, (by have q := x_cH_s b T (D 86) p0; exact (x_line_H (by omega)).trans (pq (by omega) (by omega)))⟩, by omega, by omega, by omega⟩⟩⟩
              ·
                refine V_iconst 1 d_Mod_readLine_86 (by decide) ?_
                refine V_goto 91 d_Mod_readLine_87 (by decide) ?_
                refine V_iconst 4 d_Mod_readLine_91 (by decide) ?_
                refine N_callVV [.int 1, .int 4] [] cv_Mod_144 sk_116 rfl d_Mod_readLine_92 rfl (Nat.le_of_ble_eq_true rfl) (by decide) (by decide) (c_Mod_needsX h595 hI597 1 1 tc_1 4 4 tc_4 g gZ gE (kn_call fh595 (kn_call fh586 gK rfl) rfl) o599 o599Z o599E o599K o600 o600Z o600E o600K) (fun h640 p641 => ?_)
                obtain ⟨hI642, fh640, o644, o644Z, o644E, o644K, o645, o645Z, o645E, o645K, p641⟩ := p641
                have f643 : fr S_Mod_readLineX h h640 := fr_call f598 fh640 rfl
                have R646 : RM h640 T D := RM_fr fh640 rfl R601
                refine V_aload_n 0 d_Mod_readLine_95 rfl rfl ?_
                refine V_dup d_Mod_readLine_96 rfl ?_
                refine N_getK fa_Mod_75 sk_116 rfl d_Mod_readLine_97 (kn_call fh640 (kn_call fh595 (kn_call fh586 oK rfl) rfl) rfl) ?_
                refine V_iconst 1 d_Mod_readLine_100 (by decide) ?_
                refine V_iload_n 1 d_Mod_readLine_101 rfl rfl ?_
                refine N_ishl d_Mod_readLine_102 (fun z647 z647Z z647E z647e => ?_)
                refine N_ior d_Mod_readLine_103 (fun z648 z648Z z648E z648e => ?_)
                refine N_putI fp_Mod_75 sk_116 rfl d_Mod_readLine_104 (fun h649 eh649 => ?_)
                have hI650 : Inv h649 := inv_full hI642 eh649 rfl
                have f651 : fr S_Mod_readLineX h h649 := fr_put f643 eh649 rfl
                have R652 : RM h649 (x_upT T 8 0) D := RM_once R646 eh649 (kn_call fh640 (kn_call fh595 (kn_call fh586 oK rfl) rfl) rfl) tc_3 (by assumption) (by assumption) (by decide)
                have g653 : x_fr b pZ = x_fr b (x_en b p0) := congrArg (x_fr b) (by omega)
                have g654 : x_kd b pZ = x_kd b (x_en b p0) := congrArg (x_kd b) (by omega)
                have g655 : x_en b pZ = x_en b (x_en b p0) := congrArg (x_en b) (by omega)
                have g656 : x_vl b pZ = x_vl b (x_en b p0) := congrArg (x_vl b) (by omega)
                refine V_aload_n 0 d_Mod_readLine_107 rfl rfl ?_
                refine N_callVV [] [] cv_Mod_152 sk_116 rfl d_Mod_readLine_108 rfl (Nat.le_of_ble_eq_true rfl) (by decide) (by decide) (c_Mod_nextX h649 b hI650 s sZ sE (kn_nei eh649 (kn_call fh640 (kn_call fh595 (kn_call fh586 sK rfl) rfl) rfl) (by decide)) p pZ pE (kn_nei eh649 (kn_call fh640 (kn_call fh595 (kn_call fh586 pK rfl) rfl) rfl) (by decide)) g gZ gE (kn_nei eh649 (kn_call fh640 (kn_call fh595 (kn_call fh586 gK rfl) rfl) rfl) (by decide)) k kZ kE (kn_nei eh649 (kn_call fh640 (kn_call fh595 (kn_call fh586 kK rfl) rfl) rfl) (by decide)) v vZ vE (kn_nei eh649 (kn_call fh640 (kn_call fh595 (kn_call fh586 vK rfl) rfl) rfl) (by decide)) o644 o644Z o644E (kn_nei eh649 o644K (by decide)) o645 o645Z o645E (kn_nei eh649 o645K (by decide)) (TP_fr f651 (fun _ => rfl) hy0) (by omega)) (fun h658 p659 => ?_)
                obtain ⟨hI660, fh658, o662, o662Z, o662E, o662K, o663, o663Z, o663E, o663K, o664, o664Z, o664E, o664K, o665, o665Z, o665E, o665K, o666, o666Z, o666E, o666K, o667, o667Z, o667E, o667K, p659⟩ := p659
                have f661 : fr S_Mod_readLineX h h658 := fr_call f651 fh658 rfl
                have R668 : RM h658 (x_upT T 8 0) D := RM_fr fh658 rfl R652
                have g669 : 0 ≤ o662Z ∧ o662Z ≤ 160 := inv_at hI660 o662E o662K.symm rfl
                have g670 : 0 ≤ o663Z ∧ o663Z ≤ 160 := inv_at hI660 o663E o663K.symm rfl
                rcases (by omega : o666Z ≠ 0 ∨ o666Z = 0) with c671 | c671
                ·
                  replace p659 := p659.resolve_left (fun q => by omega)
                  have hH : x_cH b T (D 86) p0 = 0 := by have q := x_cH_s b T (D 86) p0; omega
                  have g672 := x_cK_s b (x_en b p0)
                  refine V_aload_n 0 d_Mod_readLine_111 rfl rfl ?_
                  refine N_getK fa_Mod_102 sk_116 rfl d_Mod_readLine_112 o666K ?_
                  refine V_if_le 119 o666E d_Mod_readLine_115 (by decide) (fun c673 => ?_) (fun c673 => ?_)
                  ·
                    exact absurd c673 (by omega)
                  ·
                    exact V_vret rfl d_Mod_readLine_118 ⟨rfl, ⟨hI660, f661, o662, o662Z, o662E, o662K, o663, o663Z, o663E, o663K, o664, o664Z, o664E, o664K, o665, o665Z, o665E, o665K, o666, o666Z, o666E, o666K, o667, o667Z, o667E, o667K, ⟨Or.inl ⟨by omega, (x_line_8 rfl hH hL).trans ((show x_l8 b T (x_en b p0) = (x_cK b (x_en b p0), x_fr b (x_en b p0)) from by unfold x_l8; rw [x_sq_y (c := x_cK b (x_en b p0)) (by omega)]).trans (pq (by omega) (by omega)))⟩, by omega, by omega, by omega⟩⟩⟩
                ·
                  replace p659 := p659.resolve_left (fun q => by omega)
                  have hH : x_cH b T (D 86) p0 = 0 := by have q := x_cH_s b T (D 86) p0; omega
                  refine V_aload_n 0 d_Mod_readLine_111 rfl rfl ?_
                  refine N_getK fa_Mod_102 sk_116 rfl d_Mod_readLine_112 o666K ?_
                  refine V_if_le 119 o666E d_Mod_readLine_115 (by decide) (fun c674 => ?_) (fun c674 => ?_)
                  ·
                    refine V_aload_n 0 d_Mod_readLine_119 rfl rfl ?_
                    refine V_iload_n 1 d_Mod_readLine_120 rfl rfl ?_
                    refine N_callVV [.int 3] [] cv_Mod_177 sk_116 rfl d_Mod_readLine_121 rfl (Nat.le_of_ble_eq_true rfl) (by decide) (by decide) (c_Mod_readLineOfX_3 h658 b (x_upT T 8 0) D (x_en b p0) hI660 s sZ sE (kn_call fh658 (kn_nei eh649 (kn_call fh640 (kn_call fh595 (kn_call fh586 sK rfl) rfl) rfl) (by decide)) rfl) o662 o662Z o662E o662K o663 o663Z o663E o663K o664 o664Z o664E o664K o665 o665Z o665E o665K o666 o666Z o666E o666K o667 o667Z o667E o667K (TP_fr f661 (fun _ => rfl) hy0) (by omega) ⟨by omega, by omega, by omega, by omega, by omega, by omega, by omega, by omega, by omega, by omega, by omega⟩ R668) (fun h676 p677 => ?_)
                    obtain ⟨hI678, fh676, o680, o680Z, o680E, o680K, o681, o681Z, o681E, o681K, o682, o682Z, o682E, o682K, o683, o683Z, o683E, o683K, o684, o684Z, o684E, o684K, o685, o685Z, o685E, o685K, p677⟩ := p677
                    have f679 : fr S_Mod_readLineX h h676 := fr_call f661 fh676 rfl
                    have g686 : 0 ≤ o680Z ∧ o680Z ≤ 160 := inv_at hI678 o680E o680K.symm rfl
                    have g687 : 0 ≤ o681Z ∧ o681Z ≤ 160 := inv_at hI678 o681E o681K.symm rfl
                    rcases (by omega : o684Z ≠ 0 ∨ o684Z = 0) with c688 | c688
                    ·
                      obtain ⟨hq0, hq⟩ := p677.1.resolve_right (fun q => absurd q.1 c688)
                      replace p677 := p677.2
                      refine V_aload_n 0 d_Mod_readLine_124 rfl rfl ?_
                      refine N_getK fa_Mod_102 sk_116 rfl d_Mod_readLine_125 o684K ?_
                      refine V_if_ne 149 o684E d_Mod_readLine_128 (by decide) (fun c689 => ?_) (fun c689 => ?_)
                      ·
                        refine V_aload_n 0 d_Mod_readLine_149 rfl rfl ?_
                        refine N_callVV [] [] cv_Mod_152 sk_116 rfl d_Mod_readLine_150 rfl (Nat.le_of_ble_eq_true rfl) (by decide) (by decide) (c_Mod_nextX h676 b hI678 s sZ sE (kn_call fh676 (kn_call fh658 (kn_nei eh649 (kn_call fh640 (kn_call fh595 (kn_call fh586 sK rfl) rfl) rfl) (by decide)) rfl) rfl) o680 o680Z o680E o680K o681 o681Z o681E o681K o682 o682Z o682E o682K o683 o683Z o683E o683K o684 o684Z o684E o684K o685 o685Z o685E o685K (TP_fr f679 (fun _ => rfl) hy0) (by omega)) (fun h691 p692 => ?_)
                        obtain ⟨hI693, fh691, o695, o695Z, o695E, o695K, o696, o696Z, o696E, o696K, o697, o697Z, o697E, o697K, o698, o698Z, o698E, o698K, o699, o699Z, o699E, o699K, o700, o700Z, o700E, o700K, p692⟩ := p692
                        have f694 : fr S_Mod_readLineX h h691 := fr_call f679 fh691 rfl
                        have g701 : 0 ≤ o695Z ∧ o695Z ≤ 160 := inv_at hI693 o695E o695K.symm rfl
                        have g702 : 0 ≤ o696Z ∧ o696Z ≤ 160 := inv_at hI693 o696E o696K.symm rfl
                        exact V_vret rfl d_Mod_readLine_153 ⟨rfl, ⟨hI693, f694, o695, o695Z, o695E, o695K, o696, o696Z, o696E, o696K, o697, o697Z, o697E, o697K, o698, o698Z, o698E, o698K, o699, o699Z, o699E, o699K, o700, o700Z, o700E, o700K, ⟨Or.inl ⟨by omega, (x_line_8 rfl hH hL).trans (hq.trans (pq (by omega) (by omega)))⟩, by omega, by omega, by omega⟩⟩⟩
                      ·
                        exact absurd c689 (by omega)
                    ·
                      obtain ⟨p6770, hl, p677X, p677R⟩ := p677.1.resolve_left (fun q => absurd c688 q.1)
                      replace p677 := p677.2
                      refine V_aload_n 0 d_Mod_readLine_124 rfl rfl ?_
                      refine N_getK fa_Mod_102 sk_116 rfl d_Mod_readLine_125 o684K ?_
                      refine V_if_ne 149 o684E d_Mod_readLine_128 (by decide) (fun c703 => ?_) (fun c703 => ?_)
                      ·
                        exact absurd c703 (by omega)
                      ·
                        have g704 := x_cS_s b (x_en b (x_en b (x_en b p0)))
                        refine V_aload_n 0 d_Mod_readLine_131 rfl rfl ?_
                        refine V_aload_n 0 d_Mod_readLine_132 rfl rfl ?_
                        refine N_getK fa_Mod_130 sk_116 rfl d_Mod_readLine_133 o682K ?_
                        refine V_iconst 3 d_Mod_readLine_136 (by decide) ?_
                        refine V_icmp_ne 144 o682E tc_3 d_Mod_readLine_137 (by decide) (fun c705 => ?_) (fun c705 => ?_)
                        ·
                          refine V_iconst 0 d_Mod_readLine_144 (by decide) ?_
                          refine V_iconst 2 d_Mod_readLine_145 (by decide) ?_
                          refine N_callVV [.int 0, .int 2] [] cv_Mod_144 sk_116 rfl d_Mod_readLine_146 rfl (Nat.le_of_ble_eq_true rfl) (by decide) (by decide) (c_Mod_needsX h676 hI678 0 0 tc_0 2 2 tc_2 o681 o681Z o681E o681K o684 o684Z o684E o684K o685 o685Z o685E o685K) (fun h707 p708 => ?_)
                          obtain ⟨hI709, fh707, o711, o711Z, o711E, o711K, o712, o712Z, o712E, o712K, p708⟩ := p708
                          have f710 : fr S_Mod_readLineX h h707 := fr_call f679 fh707 rfl
                          refine V_aload_n 0 d_Mod_readLine_149 rfl rfl ?_
                          refine N_callVV [] [] cv_Mod_152 sk_116 rfl d_Mod_readLine_150 rfl (Nat.le_of_ble_eq_true rfl) (by decide) (by decide) (c_Mod_nextX h707 b hI709 s sZ sE (kn_call fh707 (kn_call fh676 (kn_call fh658 (kn_nei eh649 (kn_call fh640 (kn_call fh595 (kn_call fh586 sK rfl) rfl) rfl) (by decide)) rfl) rfl) rfl) o680 o680Z o680E (kn_call fh707 o680K rfl) o681 o681Z o681E (kn_call fh707 o681K rfl) o682 o682Z o682E (kn_call fh707 o682K rfl) o683 o683Z o683E (kn_call fh707 o683K rfl) o711 o711Z o711E o711K o712 o712Z o712E o712K (TP_fr f710 (fun _ => rfl) hy0) (by omega)) (fun h714 p715 => ?_)
                          obtain ⟨hI716, fh714, o718, o718Z, o718E, o718K, o719, o719Z, o719E, o719K, o720, o720Z, o720E, o720K, o721, o721Z, o721E, o721K, o722, o722Z, o722E, o722K, o723, o723Z, o723E, o723K, p715⟩ := p715
                          have f717 : fr S_Mod_readLineX h h714 := fr_call f710 fh714 rfl
                          have g724 : 0 ≤ o718Z ∧ o718Z ≤ 160 := inv_at hI716 o718E o718K.symm rfl
                          have g725 : 0 ≤ o719Z ∧ o719Z ≤ 160 := inv_at hI716 o719E o719K.symm rfl
                          exact V_vret rfl d_Mod_readLine_153 ⟨rfl, ⟨hI716, f717, o718, o718Z, o718E, o718K, o719, o719Z, o719E, o719K, o720, o720Z, o720E, o720K, o721, o721Z, o721E, o721K, o722, o722Z, o722E, o722K, o723, o723Z, o723E, o723K, ⟨Or.inl ⟨by omega, (x_line_8 rfl hH hL).trans (hl.trans ((x_sq_y (by omega)).trans (pq (by omega) (by omega))))⟩, by omega, by omega, by omega⟩⟩⟩
                        ·
                          refine V_iconst 1 d_Mod_readLine_140 (by decide) ?_
                          refine V_goto 145 d_Mod_readLine_141 (by decide) ?_
                          refine V_iconst 2 d_Mod_readLine_145 (by decide) ?_
                          refine N_callVV [.int 1, .int 2] [] cv_Mod_144 sk_116 rfl d_Mod_readLine_146 rfl (Nat.le_of_ble_eq_true rfl) (by decide) (by decide) (c_Mod_needsX h676 hI678 1 1 tc_1 2 2 tc_2 o681 o681Z o681E o681K o684 o684Z o684E o684K o685 o685Z o685E o685K) (fun h727 p728 => ?_)
                          obtain ⟨hI729, fh727, o731, o731Z, o731E, o731K, o732, o732Z, o732E, o732K, p728⟩ := p728
                          have f730 : fr S_Mod_readLineX h h727 := fr_call f679 fh727 rfl
                          have R733 : RM h727 (x_upT T 8 0) (x_up (x_up D 84 (x_nn b (x_en b p0))) 85 (x_vl b (x_en b (x_en b p0)))) := RM_fr fh727 rfl p677R
                          have g734 : x_fr b o680Z = x_fr b (x_en b (x_en b (x_en b (x_en b p0)))) := congrArg (x_fr b) (by omega)
                          have g735 : x_kd b o680Z = x_kd b (x_en b (x_en b (x_en b (x_en b p0)))) := congrArg (x_kd b) (by omega)
                          have g736 : x_en b o680Z = x_en b (x_en b (x_en b (x_en b (x_en b p0)))) := congrArg (x_en b) (by omega)
                          have g737 : x_vl b o680Z = x_vl b (x_en b (x_en b (x_en b (x_en b p0)))) := congrArg (x_vl b) (by omega)
                          have hmo := And.intro (x_fr_ge b p0) (And.intro (x_en_ge b (x_en b p0)) (x_en_ge b (x_en b (x_en b p0))))
                          refine V_aload_n 0 d_Mod_readLine_149 rfl rfl ?_
                          refine N_callVV [] [] cv_Mod_152 sk_116 rfl d_Mod_readLine_150 rfl (Nat.le_of_ble_eq_true rfl) (by decide) (by decide) (c_Mod_nextX h727 b hI729 s sZ sE (kn_call fh727 (kn_call fh676 (kn_call fh658 (kn_nei eh649 (kn_call fh640 (kn_call fh595 (kn_call fh586 sK rfl) rfl) rfl) (by decide)) rfl) rfl) rfl) o680 o680Z o680E (kn_call fh727 o680K rfl) o681 o681Z o681E (kn_call fh727 o681K rfl) o682 o682Z o682E (kn_call fh727 o682K rfl) o683 o683Z o683E (kn_call fh727 o683K rfl) o731 o731Z o731E o731K o732 o732Z o732E o732K (TP_fr f730 (fun _ => rfl) hy0) (by omega)) (fun h739 p740 => ?_)
                          obtain ⟨hI741, fh739, o743, o743Z, o743E, o743K, o744, o744Z, o744E, o744K, o745, o745Z, o745E, o745K, o746, o746Z, o746E, o746K, o747, o747Z, o747E, o747K, o748, o748Z, o748E, o748K, p740⟩ := p740
                          have f742 : fr S_Mod_readLineX h h739 := fr_call f730 fh739 rfl
                          have R749 : RM h739 (x_upT T 8 0) (x_up (x_up D 84 (x_nn b (x_en b p0))) 85 (x_vl b (x_en b (x_en b p0)))) := RM_fr fh739 rfl R733
                          have g750 : 0 ≤ o743Z ∧ o743Z ≤ 160 := inv_at hI741 o743E o743K.symm rfl
                          have g751 : 0 ≤ o744Z ∧ o744Z ≤ 160 := inv_at hI741 o744E o744K.symm rfl
                          exact V_vret rfl d_Mod_readLine_153 ⟨rfl, ⟨hI741, f742, o743, o743Z, o743E, o743K, o744, o744Z, o744E, o744K, o745, o745Z, o745E, o745K, o746, o746Z, o746E, o746K, o747, o747Z, o747E, o747K, o748, o748Z, o748E, o748K, ⟨Or.inr ⟨x_en b (x_en b (x_en b (x_en b p0))), (x_line_8 rfl hH hL).trans (hl.trans (x_sq_n (by omega))), by omega, by omega, (by rw [x_T_8 T (u := x_en b p0) rfl hL, x_D_8 D (u := x_en b p0) rfl hL]; exact R749), (if q9 : o747Z = 0 then Or.inr ⟨q9, by omega, by omega, by omega, by omega, by omega, by omega, by omega, by omega, by omega, by omega, by omega⟩ else Or.inl ⟨by omega, by omega, by omega⟩)⟩, by omega, by omega, by omega⟩⟩⟩
                  ·
                    exact absurd c674 (by omega)
        ·
          exact absurd c593 (by decide)
    ·
      obtain rfl : z41 = 4 := (ti_eq z41E tc_4).mpr c44
      subst c44
      have hL : x_li b p0 = 1 := by omega
      clear p43
      refine V_aload_n 0 d_Mod_readLine_18 rfl rfl ?_
      refine V_iload_n 1 d_Mod_readLine_19 rfl rfl ?_
      refine V_bipush (-4) d_Mod_readLine_20 (by decide) ?_
      refine V_icmp_eq 29 tc_4 tc_m4 d_Mod_readLine_22 (by decide) (fun c752 => ?_) (fun c752 => ?_)
      ·
        exact absurd c752 (by decide)
      ·
        refine V_iconst 1 d_Mod_readLine_25 (by decide) ?_
        refine V_goto 30 d_Mod_readLine_26 (by decide) ?_
        refine V_iconst 2 d_Mod_readLine_30 (by decide) ?_
        refine N_callVV [.int 1, .int 2] [] cv_Mod_144 sk_116 rfl d_Mod_readLine_31 rfl (Nat.le_of_ble_eq_true rfl) (by decide) (by decide) (c_Mod_needsX h hI 1 1 tc_1 2 2 tc_2 g gZ gE gK w wZ wE wK a aZ aE aK) (fun h754 p755 => ?_)
        obtain ⟨hI756, fh754, o758, o758Z, o758E, o758K, o759, o759Z, o759E, o759K, p755⟩ := p755
        have f757 : fr S_Mod_readLineX h h754 := fr_call f0 fh754 rfl
        have R760 : RM h754 T D := RM_fr fh754 rfl hy3
        refine V_aload_n 0 d_Mod_readLine_34 rfl rfl ?_
        refine V_iload_n 1 d_Mod_readLine_35 rfl rfl ?_
        refine V_bipush 9 d_Mod_readLine_36 (by decide) ?_
        refine V_icmp_ne 53 tc_4 tc_9 d_Mod_readLine_38 (by decide) (fun c761 => ?_) (fun c761 => ?_)
        ·
          refine V_iconst 1 d_Mod_readLine_53 (by decide) ?_
          refine V_goto 58 d_Mod_readLine_54 (by decide) ?_
          refine V_iconst 5 d_Mod_readLine_58 (by decide) ?_
          refine N_callVV [.int 1, .int 5] [] cv_Mod_144 sk_116 rfl d_Mod_readLine_59 rfl (Nat.le_of_ble_eq_true rfl) (by decide) (by decide) (c_Mod_needsX h754 hI756 1 1 tc_1 5 5 tc_5 g gZ gE (kn_call fh754 gK rfl) o758 o758Z o758E o758K o759 o759Z o759E o759K) (fun h763 p764 => ?_)
          obtain ⟨hI765, fh763, o767, o767Z, o767E, o767K, o768, o768Z, o768E, o768K, p764⟩ := p764
          have f766 : fr S_Mod_readLineX h h763 := fr_call f757 fh763 rfl
          have R769 : RM h763 T D := RM_fr fh763 rfl R760
          refine V_aload_n 0 d_Mod_readLine_62 rfl rfl ?_
          refine N_getK fa_Mod_102 sk_116 rfl d_Mod_readLine_63 o767K ?_
          refine V_if_ne 107 o767E d_Mod_readLine_66 (by decide) (fun c770 => ?_) (fun c770 => ?_)
          ·
            exact absurd c770 (by omega)
          ·
            refine V_iload_n 1 d_Mod_readLine_69 rfl rfl ?_
            refine V_iconst 3 d_Mod_readLine_70 (by decide) ?_
            refine V_icmp_gt 107 tc_4 tc_3 d_Mod_readLine_71 (by decide) (fun c771 => ?_) (fun c771 => ?_)
            ·
              have g772 : x_fr b pZ = x_fr b (x_en b p0) := congrArg (x_fr b) (by omega)
              have g773 : x_kd b pZ = x_kd b (x_en b p0) := congrArg (x_kd b) (by omega)
              have g774 : x_en b pZ = x_en b (x_en b p0) := congrArg (x_en b) (by omega)
              have g775 : x_vl b pZ = x_vl b (x_en b p0) := congrArg (x_vl b) (by omega)
              refine V_aload_n 0 d_Mod_readLine_107 rfl rfl ?_
              refine N_callVV [] [] cv_Mod_152 sk_116 rfl d_Mod_readLine_108 rfl (Nat.le_of_ble_eq_true rfl) (by decide) (by decide) (c_Mod_nextX h763 b hI765 s sZ sE (kn_call fh763 (kn_call fh754 sK rfl) rfl) p pZ pE (kn_call fh763 (kn_call fh754 pK rfl) rfl) g gZ gE (kn_call fh763 (kn_call fh754 gK rfl) rfl) k kZ kE (kn_call fh763 (kn_call fh754 kK rfl) rfl) v vZ vE (kn_call fh763 (kn_call fh754 vK rfl) rfl) o767 o767Z o767E o767K o768 o768Z o768E o768K (TP_fr f766 (fun _ => rfl) hy0) (by omega)) (fun h777 p778 => ?_)
              obtain ⟨hI779, fh777, o781, o781Z, o781E, o781K, o782, o782Z, o782E, o782K, o783, o783Z, o783E, o783K, o784, o784Z, o784E, o784K, o785, o785Z, o785E, o785K, o786, o786Z, o786E, o786K, p778⟩ := p778
              have f780 : fr S_Mod_readLineX h h777 := fr_call f766 fh777 rfl
              have R787 : RM h777 T D := RM_fr fh777 rfl R769
              have g788 : 0 ≤ o781Z ∧ o781Z ≤ 160 := inv_at hI779 o781E o781K.symm rfl
              have g789 : 0 ≤ o782Z ∧ o782Z ≤ 160 := inv_at hI779 o782E o782K.symm rfl
              rcases (by omega : o785Z ≠ 0 ∨ o785Z = 0) with c790 | c790
              ·
                replace p778 := p778.resolve_left (fun q => by omega)
                have hH : x_cH b T (D 86) p0 = 0 := by have q := x_cH_s b T (D 86) p0; omega
                have g791 := x_cN_s b (x_en b p0) 0 15
                refine V_aload_n 0 d_Mod_readLine_111 rfl rfl ?_
                refine N_getK fa_Mod_102 sk_116 rfl d_Mod_readLine_112 o785K ?_
                refine V_if_le 119 o785E d_Mod_readLine_115 (by decide) (fun c792 => ?_) (fun c792 => ?_)
                ·
                  exact absurd c792 (by omega)
                ·
                  exact V_vret rfl d_Mod_readLine_118 ⟨rfl, ⟨hI779, f780, o781, o781Z, o781E, o781K, o782, o782Z, o782E, o782K, o783, o783Z, o783E, o783K, o784, o784Z, o784E, o784K, o785, o785Z, o785E, o785K, o786, o786Z, o786E, o786K, ⟨Or.inl ⟨by omega, (x_line_1 rfl hH hL).trans ((show x_l1 b T (x_en b p0) = (x_cN b (x_en b p0) 0 15, x_fr b (x_en b p0)) from by unfold x_l1; rw [x_sq_y (c := x_cN b (x_en b p0) 0 15) (by omega)]).trans (pq (by omega) (by omega)))⟩, by omega, by omega, by omega⟩⟩⟩
              ·
                replace p778 := p778.resolve_left (fun q => by omega)
                have hH : x_cH b T (D 86) p0 = 0 := by have q := x_cH_s b T (D 86) p0; omega
                refine V_aload_n 0 d_Mod_readLine_111 rfl rfl ?_
                refine N_getK fa_Mod_102 sk_116 rfl d_Mod_readLine_112 o785K ?_
                refine V_if_le 119 o785E d_Mod_readLine_115 (by decide) (fun c793 => ?_) (fun c793 => ?_)
                ·
                  refine V_aload_n 0 d_Mod_readLine_119 rfl rfl ?_
                  refine V_iload_n 1 d_Mod_readLine_120 rfl rfl ?_
                  obtain ⟨z794, z794Z, z794E, z794e⟩ : ∃ (y : Int32) (Y : Int), y.toInt = Y ∧ y = h777.1 120 0 := ⟨_, _, rfl, rfl⟩
                  obtain ⟨z795, z795Z, z795E, z795e⟩ : ∃ (y : Int32) (Y : Int), y.toInt = Y ∧ y = h777.1 116 13 := ⟨_, _, rfl, rfl⟩
                  refine N_callVV [.int 4] [] cv_Mod_177 sk_116 rfl d_Mod_readLine_121 rfl (Nat.le_of_ble_eq_true rfl) (by decide) (by decide) (c_Mod_readLineOfX_4 h777 b T D (x_en b p0) hI779 s sZ sE (kn_call fh777 (kn_call fh763 (kn_call fh754 sK rfl) rfl) rfl) o781 o781Z o781E o781K o782 o782Z o782E o782K o783 o783Z o783E o783K o784 o784Z o784E o784K o785 o785Z o785E o785K o786 o786Z o786E o786K z794 z794Z z794E z794e.symm z795 z795Z z795E z795e.symm (TP_fr f780 (fun _ => rfl) hy0) (by omega) ⟨by omega, by omega, by omega, by omega, by omega, by omega, by omega, by omega, by omega, by omega, by omega⟩ R787) (fun h797 p798 => ?_)
                  obtain ⟨hI799, fh797, o801, o801Z, o801E, o801K, o802, o802Z, o802E, o802K, o803, o803Z, o803E, o803K, o804, o804Z, o804E, o804K, o805, o805Z, o805E, o805K, o806, o806Z, o806E, o806K, p798⟩ := p798
                  have f800 : fr S_Mod_readLineX h h797 := fr_call f780 fh797 rfl
                  have g807 : 0 ≤ o801Z ∧ o801Z ≤ 160 := inv_at hI799 o801E o801K.symm rfl
                  have g808 : 0 ≤ o802Z ∧ o802Z ≤ 160 := inv_at hI799 o802E o802K.symm rfl
                  rcases (by omega : o805Z ≠ 0 ∨ o805Z = 0) with c809 | c809
                  ·
                    obtain ⟨hq0, hq⟩ := p798.1.resolve_right (fun q => absurd q.1 c809)
                    replace p798 := p798.2
                    refine V_aload_n 0 d_Mod_readLine_124 rfl rfl ?_
                    refine N_getK fa_Mod_102 sk_116 rfl d_Mod_readLine_125 o805K ?_
                    refine V_if_ne 149 o805E d_Mod_readLine_128 (by decide) (fun c810 => ?_) (fun c810 => ?_)
                    ·
                      refine V_aload_n 0 d_Mod_readLine_149 rfl rfl ?_
                      refine N_callVV [] [] cv_Mod_152 sk_116 rfl d_Mod_readLine_150 rfl (Nat.le_of_ble_eq_true rfl) (by decide) (by decide) (c_Mod_nextX h797 b hI799 s sZ sE (kn_call fh797 (kn_call fh777 (kn_call fh763 (kn_call fh754 sK rfl) rfl) rfl) rfl) o801 o801Z o801E o801K o802 o802Z o802E o802K o803 o803Z o803E o803K o804 o804Z o804E o804K o805 o805Z o805E o805K o806 o806Z o806E o806K (TP_fr f800 (fun _ => rfl) hy0) (by omega)) (fun h812 p813 => ?_)
                      obtain ⟨hI814, fh812, o816, o816Z, o816E, o816K, o817, o817Z, o817E, o817K, o818, o818Z, o818E, o818K, o819, o819Z, o819E, o819K, o820, o820Z, o820E, o820K, o821, o821Z, o821E, o821K, p813⟩ := p813
                      have f815 : fr S_Mod_readLineX h h812 := fr_call f800 fh812 rfl
                      have g822 : 0 ≤ o816Z ∧ o816Z ≤ 160 := inv_at hI814 o816E o816K.symm rfl
                      have g823 : 0 ≤ o817Z ∧ o817Z ≤ 160 := inv_at hI814 o817E o817K.symm rfl
                      exact V_vret rfl d_Mod_readLine_153 ⟨rfl, ⟨hI814, f815, o816, o816Z, o816E, o816K, o817, o817Z, o817E, o817K, o818, o818Z, o818E, o818K, o819, o819Z, o819E, o819K, o820, o820Z, o820E, o820K, o821, o821Z, o821E, o821K, ⟨Or.inl ⟨by omega, (x_line_1 rfl hH hL).trans (hq.trans (pq (by omega) (by omega)))⟩, by omega, by omega, by omega⟩⟩⟩
                    ·
                      exact absurd c810 (by omega)
                  ·
                    obtain ⟨p7980, hl, p798X, p798R⟩ := p798.1.resolve_left (fun q => absurd c809 q.1)
                    replace p798 := p798.2
                    refine V_aload_n 0 d_Mod_readLine_124 rfl rfl ?_
                    refine N_getK fa_Mod_102 sk_116 rfl d_Mod_readLine_125 o805K ?_
                    refine V_if_ne 149 o805E d_Mod_readLine_128 (by decide) (fun c824 => ?_) (fun c824 => ?_)
                    ·
                      exact absurd c824 (by omega)
                    ·
                      have g825 := x_cS_s b (x_en b (x_en b (x_en b p0)))
                      refine V_aload_n 0 d_Mod_readLine_131 rfl rfl ?_
                      refine V_aload_n 0 d_Mod_readLine_132 rfl rfl ?_
                      refine N_getK fa_Mod_130 sk_116 rfl d_Mod_readLine_133 o803K ?_
                      refine V_iconst 3 d_Mod_readLine_136 (by decide) ?_
                      refine V_icmp_ne 144 o803E tc_3 d_Mod_readLine_137 (by decide) (fun c826 => ?_) (fun c826 => ?_)
                      ·
                        refine V_iconst 0 d_Mod_readLine_144 (by decide) ?_
                        refine V_iconst 2 d_Mod_readLine_145 (by decide) ?_
                        refine N_callVV [.int 0, .int 2] [] cv_Mod_144 sk_116 rfl d_Mod_readLine_146 rfl (Nat.le_of_ble_eq_true rfl) (by decide) (by decide) (c_Mod_needsX h797 hI799 0 0 tc_0 2 2 tc_2 o802 o802Z o802E o802K o805 o805Z o805E o805K o806 o806Z o806E o806K) (fun h828 p829 => ?_)
                        obtain ⟨hI830, fh828, o832, o832Z, o832E, o832K, o833, o833Z, o833E, o833K, p829⟩ := p829
                        have f831 : fr S_Mod_readLineX h h828 := fr_call f800 fh828 rfl
                        refine V_aload_n 0 d_Mod_readLine_149 rfl rfl ?_
                        refine N_callVV [] [] cv_Mod_152 sk_116 rfl d_Mod_readLine_150 rfl (Nat.le_of_ble_eq_true rfl) (by decide) (by decide) (c_Mod_nextX h828 b hI830 s sZ sE (kn_call fh828 (kn_call fh797 (kn_call fh777 (kn_call fh763 (kn_call fh754 sK rfl) rfl) rfl) rfl) rfl) o801 o801Z o801E (kn_call fh828 o801K rfl) o802 o802Z o802E (kn_call fh828 o802K rfl) o803 o803Z o803E (kn_call fh828 o803K rfl) o804 o804Z o804E (kn_call fh828 o804K rfl) o832 o832Z o832E o832K o833 o833Z o833E o833K (TP_fr f831 (fun _ => rfl) hy0) (by omega)) (fun h835 p836 => ?_)
                        obtain ⟨hI837, fh835, o839, o839Z, o839E, o839K, o840, o840Z, o840E, o840K, o841, o841Z, o841E, o841K, o842, o842Z, o842E, o842K, o843, o843Z, o843E, o843K, o844, o844Z, o844E, o844K, p836⟩ := p836
                        have f838 : fr S_Mod_readLineX h h835 := fr_call f831 fh835 rfl
                        have g845 : 0 ≤ o839Z ∧ o839Z ≤ 160 := inv_at hI837 o839E o839K.symm rfl
                        have g846 : 0 ≤ o840Z ∧ o840Z ≤ 160 := inv_at hI837 o840E o840K.symm rfl
                        exact V_vret rfl d_Mod_readLine_153 ⟨rfl, ⟨hI837, f838, o839, o839Z, o839E, o839K, o840, o840Z, o840E, o840K, o841, o841Z, o841E, o841K, o842, o842Z, o842E, o842K, o843, o843Z, o843E, o843K, o844, o844Z, o844E, o844K, ⟨Or.inl ⟨by omega, (x_line_1 rfl hH hL).trans (hl.trans ((x_sq_y (by omega)).trans (pq (by omega) (by omega))))⟩, by omega, by omega, by omega⟩⟩⟩
                      ·
                        refine V_iconst 1 d_Mod_readLine_140 (by decide) ?_
                        refine V_goto 145 d_Mod_readLine_141 (by decide) ?_
                        refine V_iconst 2 d_Mod_readLine_145 (by decide) ?_
                        refine N_callVV [.int 1, .int 2] [] cv_Mod_144 sk_116 rfl d_Mod_readLine_146 rfl (Nat.le_of_ble_eq_true rfl) (by decide) (by decide) (c_Mod_needsX h797 hI799 1 1 tc_1 2 2 tc_2 o802 o802Z o802E o802K o805 o805Z o805E o805K o806 o806Z o806E o806K) (fun h848 p849 => ?_)
                        obtain ⟨hI850, fh848, o852, o852Z, o852E, o852K, o853, o853Z, o853E, o853K, p849⟩ := p849
                        have f851 : fr S_Mod_readLineX h h848 := fr_call f800 fh848 rfl
                        have R854 : RM h848 (x_upT T 1 (x_vl b (x_en b p0))) (x_up D (x_vl b (x_en b p0)) (x_vl b (x_en b (x_en b p0)))) := RM_fr fh848 rfl p798R
                        have g855 : x_fr b o801Z = x_fr b (x_en b (x_en b (x_en b (x_en b p0)))) := congrArg (x_fr b) (by omega)
                        have g856 : x_kd b o801Z = x_kd b (x_en b (x_en b (x_en b (x_en b p0)))) := congrArg (x_kd b) (by omega)
                        have g857 : x_en b o801Z = x_en b (x_en b (x_en b (x_en b (x_en b p0)))) := congrArg (x_en b) (by omega)
                        have g858 : x_vl b o801Z = x_vl b (x_en b (x_en b (x_en b (x_en b p0)))) := congrArg (x_vl b) (by omega)
                        have hmo := And.intro (x_fr_ge b p0) (And.intro (x_en_ge b (x_en b p0)) (x_en_ge b (x_en b (x_en b p0))))
                        refine V_aload_n 0 d_Mod_readLine_149 rfl rfl ?_
                        refine N_callVV [] [] cv_Mod_152 sk_116 rfl d_Mod_readLine_150 rfl (Nat.le_of_ble_eq_true rfl) (by decide) (by decide) (c_Mod_nextX h848 b hI850 s sZ sE (kn_call fh848 (kn_call fh797 (kn_call fh777 (kn_call fh763 (kn_call fh754 sK rfl) rfl) rfl) rfl) rfl) o801 o801Z o801E (kn_call fh848 o801K rfl) o802 o802Z o802E (kn_call fh848 o802K rfl) o803 o803Z o803E (kn_call fh848 o803K rfl) o804 o804Z o804E (kn_call fh848 o804K rfl) o852 o852Z o852E o852K o853 o853Z o853E o853K (TP_fr f851 (fun _ => rfl) hy0) (by omega)) (fun h860 p861 => ?_)
                        obtain ⟨hI862, fh860, o864, o864Z, o864E, o864K, o865, o865Z, o865E, o865K, o866, o866Z, o866E, o866K, o867, o867Z, o867E, o867K, o868, o868Z, o868E, o868K, o869, o869Z, o869E, o869K, p861⟩ := p861
                        have f863 : fr S_Mod_readLineX h h860 := fr_call f851 fh860 rfl
                        have R870 : RM h860 (x_upT T 1 (x_vl b (x_en b p0))) (x_up D (x_vl b (x_en b p0)) (x_vl b (x_en b (x_en b p0)))) := RM_fr fh860 rfl R854
                        have g871 : 0 ≤ o864Z ∧ o864Z ≤ 160 := inv_at hI862 o864E o864K.symm rfl
                        have g872 : 0 ≤ o865Z ∧ o865Z ≤ 160 := inv_at hI862 o865E o865K.symm rfl
                        exact V_vret rfl d_Mod_readLine_153 ⟨rfl, ⟨hI862, f863, o864, o864Z, o864E, o864K, o865, o865Z, o865E, o865K, o866, o866Z, o866E, o866K, o867, o867Z, o867E, o867K, o868, o868Z, o868E, o868K, o869, o869Z, o869E, o869K, ⟨Or.inr ⟨x_en b (x_en b (x_en b (x_en b p0))), (x_line_1 rfl hH hL).trans (hl.trans (x_sq_n (by omega))), by omega, by omega, (by rw [x_T_1 T (u := x_en b p0) rfl hL, x_D_1 D (u := x_en b p0) rfl hL]; exact R870), (if q9 : o868Z = 0 then Or.inr ⟨q9, by omega, by omega, by omega, by omega, by omega, by omega, by omega, by omega, by omega, by omega, by omega⟩ else Or.inl ⟨by omega, by omega, by omega⟩)⟩, by omega, by omega, by omega⟩⟩⟩
                ·
                  exact absurd c793 (by omega)
            ·
              exact absurd c771 (by decide)
        ·
          exact absurd c761 (by decide)
    ·
      obtain rfl : z41 = 5 := (ti_eq z41E tc_5).mpr c44
      subst c44
      have hL : x_li b p0 = 2 := by omega
      clear p43
      refine V_aload_n 0 d_Mod_readLine_18 rfl rfl ?_
      refine V_iload_n 1 d_Mod_readLine_19 rfl rfl ?_
      refine V_bipush (-4) d_Mod_readLine_20 (by decide) ?_
      refine V_icmp_eq 29 tc_5 tc_m4 d_Mod_readLine_22 (by decide) (fun c873 => ?_) (fun c873 => ?_)
      ·
        exact absurd c873 (by decide)
      ·
        refine V_iconst 1 d_Mod_readLine_25 (by decide) ?_
        refine V_goto 30 d_Mod_readLine_26 (by decide) ?_
        refine V_iconst 2 d_Mod_readLine_30 (by decide) ?_
        refine N_callVV [.int 1, .int 2] [] cv_Mod_144 sk_116 rfl d_Mod_readLine_31 rfl (Nat.le_of_ble_eq_true rfl) (by decide) (by decide) (c_Mod_needsX h hI 1 1 tc_1 2 2 tc_2 g gZ gE gK w wZ wE wK a aZ aE aK) (fun h875 p876 => ?_)
        obtain ⟨hI877, fh875, o879, o879Z, o879E, o879K, o880, o880Z, o880E, o880K, p876⟩ := p876
        have f878 : fr S_Mod_readLineX h h875 := fr_call f0 fh875 rfl
        have R881 : RM h875 T D := RM_fr fh875 rfl hy3
        refine V_aload_n 0 d_Mod_readLine_34 rfl rfl ?_
        refine V_iload_n 1 d_Mod_readLine_35 rfl rfl ?_
        refine V_bipush 9 d_Mod_readLine_36 (by decide) ?_
        refine V_icmp_ne 53 tc_5 tc_9 d_Mod_readLine_38 (by decide) (fun c882 => ?_) (fun c882 => ?_)
        ·
          refine V_iconst 1 d_Mod_readLine_53 (by decide) ?_
          refine V_goto 58 d_Mod_readLine_54 (by decide) ?_
          refine V_iconst 5 d_Mod_readLine_58 (by decide) ?_
          refine N_callVV [.int 1, .int 5] [] cv_Mod_144 sk_116 rfl d_Mod_readLine_59 rfl (Nat.le_of_ble_eq_true rfl) (by decide) (by decide) (c_Mod_needsX h875 hI877 1 1 tc_1 5 5 tc_5 g gZ gE (kn_call fh875 gK rfl) o879 o879Z o879E o879K o880 o880Z o880E o880K) (fun h884 p885 => ?_)
          obtain ⟨hI886, fh884, o888, o888Z, o888E, o888K, o889, o889Z, o889E, o889K, p885⟩ := p885
          have f887 : fr S_Mod_readLineX h h884 := fr_call f878 fh884 rfl
          have R890 : RM h884 T D := RM_fr fh884 rfl R881
          refine V_aload_n 0 d_Mod_readLine_62 rfl rfl ?_
          refine N_getK fa_Mod_102 sk_116 rfl d_Mod_readLine_63 o888K ?_
          refine V_if_ne 107 o888E d_Mod_readLine_66 (by decide) (fun c891 => ?_) (fun c891 => ?_)
          ·
            exact absurd c891 (by omega)
          ·
            refine V_iload_n 1 d_Mod_readLine_69 rfl rfl ?_
            refine V_iconst 3 d_Mod_readLine_70 (by decide) ?_
            refine V_icmp_gt 107 tc_5 tc_3 d_Mod_readLine_71 (by decide) (fun c892 => ?_) (fun c892 => ?_)
            ·
              have g893 : x_fr b pZ = x_fr b (x_en b p0) := congrArg (x_fr b) (by omega)
              have g894 : x_kd b pZ = x_kd b (x_en b p0) := congrArg (x_kd b) (by omega)
              have g895 : x_en b pZ = x_en b (x_en b p0) := congrArg (x_en b) (by omega)
              have g896 : x_vl b pZ = x_vl b (x_en b p0) := congrArg (x_vl b) (by omega)
              refine V_aload_n 0 d_Mod_readLine_107 rfl rfl ?_
              refine N_callVV [] [] cv_Mod_152 sk_116 rfl d_Mod_readLine_108 rfl (Nat.le_of_ble_eq_true rfl) (by decide) (by decide) (c_Mod_nextX h884 b hI886 s sZ sE (kn_call fh884 (kn_call fh875 sK rfl) rfl) p pZ pE (kn_call fh884 (kn_call fh875 pK rfl) rfl) g gZ gE (kn_call fh884 (kn_call fh875 gK rfl) rfl) k kZ kE (kn_call fh884 (kn_call fh875 kK rfl) rfl) v vZ vE (kn_call fh884 (kn_call fh875 vK rfl) rfl) o888 o888Z o888E o888K o889 o889Z o889E o889K (TP_fr f887 (fun _ => rfl) hy0) (by omega)) (fun h898 p899 => ?_)
              obtain ⟨hI900, fh898, o902, o902Z, o902E, o902K, o903, o903Z, o903E, o903K, o904, o904Z, o904E, o904K, o905, o905Z, o905E, o905K, o906, o906Z, o906E, o906K, o907, o907Z, o907E, o907K, p899⟩ := p899
              have f901 : fr S_Mod_readLineX h h898 := fr_call f887 fh898 rfl
              have R908 : RM h898 T D := RM_fr fh898 rfl R890
              have g909 : 0 ≤ o902Z ∧ o902Z ≤ 160 := inv_at hI900 o902E o902K.symm rfl
              have g910 : 0 ≤ o903Z ∧ o903Z ≤ 160 := inv_at hI900 o903E o903K.symm rfl
              rcases (by omega : o906Z ≠ 0 ∨ o906Z = 0) with c911 | c911
              ·
                replace p899 := p899.resolve_left (fun q => by omega)
                have hH : x_cH b T (D 86) p0 = 0 := by have q := x_cH_s b T (D 86) p0; omega
                have g912 := x_cN_s b (x_en b p0) 0 15
                refine V_aload_n 0 d_Mod_readLine_111 rfl rfl ?_
                refine N_getK fa_Mod_102 sk_116 rfl d_Mod_readLine_112 o906K ?_
                refine V_if_le 119 o906E d_Mod_readLine_115 (by decide) (fun c913 => ?_) (fun c913 => ?_)
                ·
                  exact absurd c913 (by omega)
                ·
                  exact V_vret rfl d_Mod_readLine_118 ⟨rfl, ⟨hI900, f901, o902, o902Z, o902E, o902K, o903, o903Z, o903E, o903K, o904, o904Z, o904E, o904K, o905, o905Z, o905E, o905K, o906, o906Z, o906E, o906K, o907, o907Z, o907E, o907K, ⟨Or.inl ⟨by omega, (x_line_2 rfl hH hL).trans ((show x_l2 b T (x_en b p0) = (x_cN b (x_en b p0) 0 15, x_fr b (x_en b p0)) from by unfold x_l2; rw [x_sq_y (c := x_cN b (x_en b p0) 0 15) (by omega)]).trans (pq (by omega) (by omega)))⟩, by omega, by omega, by omega⟩⟩⟩
              ·
                replace p899 := p899.resolve_left (fun q => by omega)
                have hH : x_cH b T (D 86) p0 = 0 := by have q := x_cH_s b T (D 86) p0; omega
                refine V_aload_n 0 d_Mod_readLine_111 rfl rfl ?_
                refine N_getK fa_Mod_102 sk_116 rfl d_Mod_readLine_112 o906K ?_
                refine V_if_le 119 o906E d_Mod_readLine_115 (by decide) (fun c914 => ?_) (fun c914 => ?_)
                ·
                  refine V_aload_n 0 d_Mod_readLine_119 rfl rfl ?_
                  refine V_iload_n 1 d_Mod_readLine_120 rfl rfl ?_
                  obtain ⟨z915, z915Z, z915E, z915e⟩ : ∃ (y : Int32) (Y : Int), y.toInt = Y ∧ y = h898.1 120 1 := ⟨_, _, rfl, rfl⟩
                  obtain ⟨z916, z916Z, z916E, z916e⟩ : ∃ (y : Int32) (Y : Int), y.toInt = Y ∧ y = h898.1 116 13 := ⟨_, _, rfl, rfl⟩
                  refine N_callVV [.int 5] [] cv_Mod_177 sk_116 rfl d_Mod_readLine_121 rfl (Nat.le_of_ble_eq_true rfl) (by decide) (by decide) (c_Mod_readLineOfX_5 h898 b T D (x_en b p0) hI900 s sZ sE (kn_call fh898 (kn_call fh884 (kn_call fh875 sK rfl) rfl) rfl) o902 o902Z o902E o902K o903 o903Z o903E o903K o904 o904Z o904E o904K o905 o905Z o905E o905K o906 o906Z o906E o906K o907 o907Z o907E o907K z915 z915Z z915E z915e.symm z916 z916Z z916E z916e.symm (TP_fr f901 (fun _ => rfl) hy0) (by omega) ⟨by omega, by omega, by omega, by omega, by omega, by omega, by omega, by omega, by omega, by omega, by omega⟩ R908) (fun h918 p919 => ?_)
                  obtain ⟨hI920, fh918, o922, o922Z, o922E, o922K, o923, o923Z, o923E, o923K, o924, o924Z, o924E, o924K, o925, o925Z, o925E, o925K, o926, o926Z, o926E, o926K, o927, o927Z, o927E, o927K, p919⟩ := p919
                  have f921 : fr S_Mod_readLineX h h918 := fr_call f901 fh918 rfl
                  have g928 : 0 ≤ o922Z ∧ o922Z ≤ 160 := inv_at hI920 o922E o922K.symm rfl
                  have g929 : 0 ≤ o923Z ∧ o923Z ≤ 160 := inv_at hI920 o923E o923K.symm rfl
                  rcases (by omega : o926Z ≠ 0 ∨ o926Z = 0) with c930 | c930
                  ·
                    obtain ⟨hq0, hq⟩ := p919.1.resolve_right (fun q => absurd q.1 c930)
                    replace p919 := p919.2
                    refine V_aload_n 0 d_Mod_readLine_124 rfl rfl ?_
                    refine N_getK fa_Mod_102 sk_116 rfl d_Mod_readLine_125 o926K ?_
                    refine V_if_ne 149 o926E d_Mod_readLine_128 (by decide) (fun c931 => ?_) (fun c931 => ?_)
                    ·
                      refine V_aload_n 0 d_Mod_readLine_149 rfl rfl ?_
                      refine N_callVV [] [] cv_Mod_152 sk_116 rfl d_Mod_readLine_150 rfl (Nat.le_of_ble_eq_true rfl) (by decide) (by decide) (c_Mod_nextX h918 b hI920 s sZ sE (kn_call fh918 (kn_call fh898 (kn_call fh884 (kn_call fh875 sK rfl) rfl) rfl) rfl) o922 o922Z o922E o922K o923 o923Z o923E o923K o924 o924Z o924E o924K o925 o925Z o925E o925K o926 o926Z o926E o926K o927 o927Z o927E o927K (TP_fr f921 (fun _ => rfl) hy0) (by omega)) (fun h933 p934 => ?_)
                      obtain ⟨hI935, fh933, o937, o937Z, o937E, o937K, o938, o938Z, o938E, o938K, o939, o939Z, o939E, o939K, o940, o940Z, o940E, o940K, o941, o941Z, o941E, o941K, o942, o942Z, o942E, o942K, p934⟩ := p934
                      have f936 : fr S_Mod_readLineX h h933 := fr_call f921 fh933 rfl
                      have g943 : 0 ≤ o937Z ∧ o937Z ≤ 160 := inv_at hI935 o937E o937K.symm rfl
                      have g944 : 0 ≤ o938Z ∧ o938Z ≤ 160 := inv_at hI935 o938E o938K.symm rfl
                      exact V_vret rfl d_Mod_readLine_153 ⟨rfl, ⟨hI935, f936, o937, o937Z, o937E, o937K, o938, o938Z, o938E, o938K, o939, o939Z, o939E, o939K, o940, o940Z, o940E, o940K, o941, o941Z, o941E, o941K, o942, o942Z, o942E, o942K, ⟨Or.inl ⟨by omega, (x_line_2 rfl hH hL).trans (hq.trans (pq (by omega) (by omega)))⟩, by omega, by omega, by omega⟩⟩⟩
                    ·
                      exact absurd c931 (by omega)
                  ·
                    obtain ⟨p9190, hl, p919X, p919R⟩ := p919.1.resolve_left (fun q => absurd c930 q.1)
                    replace p919 := p919.2
                    refine V_aload_n 0 d_Mod_readLine_124 rfl rfl ?_
                    refine N_getK fa_Mod_102 sk_116 rfl d_Mod_readLine_125 o926K ?_
                    refine V_if_ne 149 o926E d_Mod_readLine_128 (by decide) (fun c945 => ?_) (fun c945 => ?_)
                    ·
                      exact absurd c945 (by omega)
                    ·
                      have g946 := x_cS_s b (x_en b (x_en b p0))
                      refine V_aload_n 0 d_Mod_readLine_131 rfl rfl ?_
                      refine V_aload_n 0 d_Mod_readLine_132 rfl rfl ?_
                      refine N_getK fa_Mod_130 sk_116 rfl d_Mod_readLine_133 o924K ?_
                      refine V_iconst 3 d_Mod_readLine_136 (by decide) ?_
                      refine V_icmp_ne 144 o924E tc_3 d_Mod_readLine_137 (by decide) (fun c947 => ?_) (fun c947 => ?_)
                      ·
                        refine V_iconst 0 d_Mod_readLine_144 (by decide) ?_
                        refine V_iconst 2 d_Mod_readLine_145 (by decide) ?_
                        refine N_callVV [.int 0, .int 2] [] cv_Mod_144 sk_116 rfl d_Mod_readLine_146 rfl (Nat.le_of_ble_eq_true rfl) (by decide) (by decide) (c_Mod_needsX h918 hI920 0 0 tc_0 2 2 tc_2 o923 o923Z o923E o923K o926 o926Z o926E o926K o927 o927Z o927E o927K) (fun h949 p950 => ?_)
                        obtain ⟨hI951, fh949, o953, o953Z, o953E, o953K, o954, o954Z, o954E, o954K, p950⟩ := p950
                        have f952 : fr S_Mod_readLineX h h949 := fr_call f921 fh949 rfl
                        refine V_aload_n 0 d_Mod_readLine_149 rfl rfl ?_
                        refine N_callVV [] [] cv_Mod_152 sk_116 rfl d_Mod_readLine_150 rfl (Nat.le_of_ble_eq_true rfl) (by decide) (by decide) (c_Mod_nextX h949 b hI951 s sZ sE (kn_call fh949 (kn_call fh918 (kn_call fh898 (kn_call fh884 (kn_call fh875 sK rfl) rfl) rfl) rfl) rfl) o922 o922Z o922E (kn_call fh949 o922K rfl) o923 o923Z o923E (kn_call fh949 o923K rfl) o924 o924Z o924E (kn_call fh949 o924K rfl) o925 o925Z o925E (kn_call fh949 o925K rfl) o953 o953Z o953E o953K o954 o954Z o954E o954K (TP_fr f952 (fun _ => rfl) hy0) (by omega)) (fun h956 p957 => ?_)
                        obtain ⟨hI958, fh956, o960, o960Z, o960E, o960K, o961, o961Z, o961E, o961K, o962, o962Z, o962E, o962K, o963, o963Z, o963E, o963K, o964, o964Z, o964E, o964K, o965, o965Z, o965E, o965K, p957⟩ := p957
                        have f959 : fr S_Mod_readLineX h h956 := fr_call f952 fh956 rfl
                        have g966 : 0 ≤ o960Z ∧ o960Z ≤ 160 := inv_at hI958 o960E o960K.symm rfl
                        have g967 : 0 ≤ o961Z ∧ o961Z ≤ 160 := inv_at hI958 o961E o961K.symm rfl
                        exact V_vret rfl d_Mod_readLine_153 ⟨rfl, ⟨hI958, f959, o960, o960Z, o960E, o960K, o961, o961Z, o961E, o961K, o962, o962Z, o962E, o962K, o963, o963Z, o963E, o963K, o964, o964Z, o964E, o964K, o965, o965Z, o965E, o965K, ⟨Or.inl ⟨by omega, (x_line_2 rfl hH hL).trans (hl.trans ((x_sq_y (by omega)).trans (pq (by omega) (by omega))))⟩, by omega, by omega, by omega⟩⟩⟩
                      ·
                        refine V_iconst 1 d_Mod_readLine_140 (by decide) ?_
                        refine V_goto 145 d_Mod_readLine_141 (by decide) ?_
                        refine V_iconst 2 d_Mod_readLine_145 (by decide) ?_
                        refine N_callVV [.int 1, .int 2] [] cv_Mod_144 sk_116 rfl d_Mod_readLine_146 rfl (Nat.le_of_ble_eq_true rfl) (by decide) (by decide) (c_Mod_needsX h918 hI920 1 1 tc_1 2 2 tc_2 o923 o923Z o923E o923K o926 o926Z o926E o926K o927 o927Z o927E o927K) (fun h969 p970 => ?_)
                        obtain ⟨hI971, fh969, o973, o973Z, o973E, o973K, o974, o974Z, o974E, o974K, p970⟩ := p970
                        have f972 : fr S_Mod_readLineX h h969 := fr_call f921 fh969 rfl
                        have R975 : RM h969 (x_upT T 2 (x_vl b (x_en b p0))) (x_up D (16 + (x_vl b (x_en b p0))) 1) := RM_fr fh969 rfl p919R
                        have g976 : x_fr b o922Z = x_fr b (x_en b (x_en b (x_en b p0))) := congrArg (x_fr b) (by omega)
                        have g977 : x_kd b o922Z = x_kd b (x_en b (x_en b (x_en b p0))) := congrArg (x_kd b) (by omega)
                        have g978 : x_en b o922Z = x_en b (x_en b (x_en b (x_en b p0))) := congrArg (x_en b) (by omega)
                        have g979 : x_vl b o922Z = x_vl b (x_en b (x_en b (x_en b p0))) := congrArg (x_vl b) (by omega)
                        have hmo := x_en_ge b (x_en b p0)
                        refine V_aload_n 0 d_Mod_readLine_149 rfl rfl ?_
                        refine N_callVV [] [] cv_Mod_152 sk_116 rfl d_Mod_readLine_150 rfl (Nat.le_of_ble_eq_true rfl) (by decide) (by decide) (c_Mod_nextX h969 b hI971 s sZ sE (kn_call fh969 (kn_call fh918 (kn_call fh898 (kn_call fh884 (kn_call fh875 sK rfl) rfl) rfl) rfl) rfl) o922 o922Z o922E (kn_call fh969 o922K rfl) o923 o923Z o923E (kn_call fh969 o923K rfl) o924 o924Z o924E (kn_call fh969 o924K rfl) o925 o925Z o925E (kn_call fh969 o925K rfl) o973 o973Z o973E o973K o974 o974Z o974E o974K (TP_fr f972 (fun _ => rfl) hy0) (by omega)) (fun h981 p982 => ?_)
                        obtain ⟨hI983, fh981, o985, o985Z, o985E, o985K, o986, o986Z, o986E, o986K, o987, o987Z, o987E, o987K, o988, o988Z, o988E, o988K, o989, o989Z, o989E, o989K, o990, o990Z, o990E, o990K, p982⟩ := p982
                        have f984 : fr S_Mod_readLineX h h981 := fr_call f972 fh981 rfl
                        have R991 : RM h981 (x_upT T 2 (x_vl b (x_en b p0))) (x_up D (16 + (x_vl b (x_en b p0))) 1) := RM_fr fh981 rfl R975
                        have g992 : 0 ≤ o985Z ∧ o985Z ≤ 160 := inv_at hI983 o985E o985K.symm rfl
                        have g993 : 0 ≤ o986Z ∧ o986Z ≤ 160 := inv_at hI983 o986E o986K.symm rfl
                        exact V_vret rfl d_Mod_readLine_153 ⟨rfl, ⟨hI983, f984, o985, o985Z, o985E, o985K, o986, o986Z, o986E, o986K, o987, o987Z, o987E, o987K, o988, o988Z, o988E, o988K, o989, o989Z, o989E, o989K, o990, o990Z, o990E, o990K, ⟨Or.inr ⟨x_en b (x_en b (x_en b p0)), (x_line_2 rfl hH hL).trans (hl.trans (x_sq_n (by omega))), by omega, by omega, (by rw [x_T_2 T (u := x_en b p0) rfl hL, x_D_2 D (u := x_en b p0) rfl hL]; exact R991), (if q9 : o989Z = 0 then Or.inr ⟨q9, by omega, by omega, by omega, by omega, by omega, by omega, by omega, by omega, by omega, by omega, by omega⟩ else Or.inl ⟨by omega, by omega, by omega⟩)⟩, by omega, by omega, by omega⟩⟩⟩
                ·
                  exact absurd c914 (by omega)
            ·
              exact absurd c892 (by decide)
        ·
          exact absurd c882 (by decide)
    ·
      obtain rfl : z41 = 6 := (ti_eq z41E tc_6).mpr c44
      subst c44
      have hL : x_li b p0 = 3 := by omega
      clear p43
      refine V_aload_n 0 d_Mod_readLine_18 rfl rfl ?_
      refine V_iload_n 1 d_Mod_readLine_19 rfl rfl ?_
      refine V_bipush (-4) d_Mod_readLine_20 (by decide) ?_
      refine V_icmp_eq 29 tc_6 tc_m4 d_Mod_readLine_22 (by decide) (fun c994 => ?_) (fun c994 => ?_)
      ·
        exact absurd c994 (by decide)
      ·
        refine V_iconst 1 d_Mod_readLine_25 (by decide) ?_
        refine V_goto 30 d_Mod_readLine_26 (by decide) ?_
        refine V_iconst 2 d_Mod_readLine_30 (by decide) ?_
        refine N_callVV [.int 1, .int 2] [] cv_Mod_144 sk_116 rfl d_Mod_readLine_31 rfl (Nat.le_of_ble_eq_true rfl) (by decide) (by decide) (c_Mod_needsX h hI 1 1 tc_1 2 2 tc_2 g gZ gE gK w wZ wE wK a aZ aE aK) (fun h996 p997 => ?_)
        obtain ⟨hI998, fh996, o1000, o1000Z, o1000E, o1000K, o1001, o1001Z, o1001E, o1001K, p997⟩ := p997
        have f999 : fr S_Mod_readLineX h h996 := fr_call f0 fh996 rfl
        have R1002 : RM h996 T D := RM_fr fh996 rfl hy3
        refine V_aload_n 0 d_Mod_readLine_34 rfl rfl ?_
        refine V_iload_n 1 d_Mod_readLine_35 rfl rfl ?_
        refine V_bipush 9 d_Mod_readLine_36 (by decide) ?_
        refine V_icmp_ne 53 tc_6 tc_9 d_Mod_readLine_38 (by decide) (fun c1003 => ?_) (fun c1003 => ?_)
        ·
          refine V_iconst 1 d_Mod_readLine_53 (by decide) ?_
          refine V_goto 58 d_Mod_readLine_54 (by decide) ?_
          refine V_iconst 5 d_Mod_readLine_58 (by decide) ?_
          refine N_callVV [.int 1, .int 5] [] cv_Mod_144 sk_116 rfl d_Mod_readLine_59 rfl (Nat.le_of_ble_eq_true rfl) (by decide) (by decide) (c_Mod_needsX h996 hI998 1 1 tc_1 5 5 tc_5 g gZ gE (kn_call fh996 gK rfl) o1000 o1000Z o1000E o1000K o1001 o1001Z o1001E o1001K) (fun h1005 p1006 => ?_)
          obtain ⟨hI1007, fh1005, o1009, o1009Z, o1009E, o1009K, o1010, o1010Z, o1010E, o1010K, p1006⟩ := p1006
          have f1008 : fr S_Mod_readLineX h h1005 := fr_call f999 fh1005 rfl
          have R1011 : RM h1005 T D := RM_fr fh1005 rfl R1002
          refine V_aload_n 0 d_Mod_readLine_62 rfl rfl ?_
          refine N_getK fa_Mod_102 sk_116 rfl d_Mod_readLine_63 o1009K ?_
          refine V_if_ne 107 o1009E d_Mod_readLine_66 (by decide) (fun c1012 => ?_) (fun c1012 => ?_)
          ·
            exact absurd c1012 (by omega)
          ·
            refine V_iload_n 1 d_Mod_readLine_69 rfl rfl ?_
            refine V_iconst 3 d_Mod_readLine_70 (by decide) ?_
            refine V_icmp_gt 107 tc_6 tc_3 d_Mod_readLine_71 (by decide) (fun c1013 => ?_) (fun c1013 => ?_)
            ·
              have g1014 : x_fr b pZ = x_fr b (x_en b p0) := congrArg (x_fr b) (by omega)
              have g1015 : x_kd b pZ = x_kd b (x_en b p0) := congrArg (x_kd b) (by omega)
              have g1016 : x_en b pZ = x_en b (x_en b p0) := congrArg (x_en b) (by omega)
              have g1017 : x_vl b pZ = x_vl b (x_en b p0) := congrArg (x_vl b) (by omega)
              refine V_aload_n 0 d_Mod_readLine_107 rfl rfl ?_
              refine N_callVV [] [] cv_Mod_152 sk_116 rfl d_Mod_readLine_108 rfl (Nat.le_of_ble_eq_true rfl) (by decide) (by decide) (c_Mod_nextX h1005 b hI1007 s sZ sE (kn_call fh1005 (kn_call fh996 sK rfl) rfl) p pZ pE (kn_call fh1005 (kn_call fh996 pK rfl) rfl) g gZ gE (kn_call fh1005 (kn_call fh996 gK rfl) rfl) k kZ kE (kn_call fh1005 (kn_call fh996 kK rfl) rfl) v vZ vE (kn_call fh1005 (kn_call fh996 vK rfl) rfl) o1009 o1009Z o1009E o1009K o1010 o1010Z o1010E o1010K (TP_fr f1008 (fun _ => rfl) hy0) (by omega)) (fun h1019 p1020 => ?_)
              obtain ⟨hI1021, fh1019, o1023, o1023Z, o1023E, o1023K, o1024, o1024Z, o1024E, o1024K, o1025, o1025Z, o1025E, o1025K, o1026, o1026Z, o1026E, o1026K, o1027, o1027Z, o1027E, o1027K, o1028, o1028Z, o1028E, o1028K, p1020⟩ := p1020
              have f1022 : fr S_Mod_readLineX h h1019 := fr_call f1008 fh1019 rfl
              have R1029 : RM h1019 T D := RM_fr fh1019 rfl R1011
              have g1030 : 0 ≤ o1023Z ∧ o1023Z ≤ 160 := inv_at hI1021 o1023E o1023K.symm rfl
              have g1031 : 0 ≤ o1024Z ∧ o1024Z ≤ 160 := inv_at hI1021 o1024E o1024K.symm rfl
              rcases (by omega : o1027Z ≠ 0 ∨ o1027Z = 0) with c1032 | c1032
              ·
                replace p1020 := p1020.resolve_left (fun q => by omega)
                have hH : x_cH b T (D 86) p0 = 0 := by have q := x_cH_s b T (D 86) p0; omega
                have g1033 := x_cN_s b (x_en b p0) 0 15
                refine V_aload_n 0 d_Mod_readLine_111 rfl rfl ?_
                refine N_getK fa_Mod_102 sk_116 rfl d_Mod_readLine_112 o1027K ?_
                refine V_if_le 119 o1027E d_Mod_readLine_115 (by decide) (fun c1034 => ?_) (fun c1034 => ?_)
                ·
                  exact absurd c1034 (by omega)
                ·
                  exact V_vret rfl d_Mod_readLine_118 ⟨rfl, ⟨hI1021, f1022, o1023, o1023Z, o1023E, o1023K, o1024, o1024Z, o1024E, o1024K, o1025, o1025Z, o1025E, o1025K, o1026, o1026Z, o1026E, o1026K, o1027, o1027Z, o1027E, o1027K, o1028, o1028Z, o1028E, o1028K, ⟨Or.inl ⟨by omega, (x_line_3 rfl hH hL).trans ((show x_l3 b T (x_en b p0) = (x_cN b (x_en b p0) 0 15, x_fr b (x_en b p0)) from by unfold x_l3; rw [x_sq_y (c := x_cN b (x_en b p0) 0 15) (by omega)]).trans (pq (by omega) (by omega)))⟩, by omega, by omega, by omega⟩⟩⟩
              ·
                replace p1020 := p1020.resolve_left (fun q => by omega)
                have hH : x_cH b T (D 86) p0 = 0 := by have q := x_cH_s b T (D 86) p0; omega
                refine V_aload_n 0 d_Mod_readLine_111 rfl rfl ?_
                refine N_getK fa_Mod_102 sk_116 rfl d_Mod_readLine_112 o1027K ?_
                refine V_if_le 119 o1027E d_Mod_readLine_115 (by decide) (fun c1035 => ?_) (fun c1035 => ?_)
                ·
                  refine V_aload_n 0 d_Mod_readLine_119 rfl rfl ?_
                  refine V_iload_n 1 d_Mod_readLine_120 rfl rfl ?_
                  obtain ⟨z1036, z1036Z, z1036E, z1036e⟩ : ∃ (y : Int32) (Y : Int), y.toInt = Y ∧ y = h1019.1 120 2 := ⟨_, _, rfl, rfl⟩
                  obtain ⟨z1037, z1037Z, z1037E, z1037e⟩ : ∃ (y : Int32) (Y : Int), y.toInt = Y ∧ y = h1019.1 116 13 := ⟨_, _, rfl, rfl⟩
                  refine N_callVV [.int 6] [] cv_Mod_177 sk_116 rfl d_Mod_readLine_121 rfl (Nat.le_of_ble_eq_true rfl) (by decide) (by decide) (c_Mod_readLineOfX_6 h1019 b T D (x_en b p0) hI1021 s sZ sE (kn_call fh1019 (kn_call fh1005 (kn_call fh996 sK rfl) rfl) rfl) o1023 o1023Z o1023E o1023K o1024 o1024Z o1024E o1024K o1025 o1025Z o1025E o1025K o1026 o1026Z o1026E o1026K o1027 o1027Z o1027E o1027K o1028 o1028Z o1028E o1028K z1036 z1036Z z1036E z1036e.symm z1037 z1037Z z1037E z1037e.symm (TP_fr f1022 (fun _ => rfl) hy0) (by omega) ⟨by omega, by omega, by omega, by omega, by omega, by omega, by omega, by omega, by omega, by omega, by omega⟩ R1029) (fun h1039 p1040 => ?_)
                  obtain ⟨hI1041, fh1039, o1043, o1043Z, o1043E, o1043K, o1044, o1044Z, o1044E, o1044K, o1045, o1045Z, o1045E, o1045K, o1046, o1046Z, o1046E, o1046K, o1047, o1047Z, o1047E, o1047K, o1048, o1048Z, o1048E, o1048K, p1040⟩ := p1040
                  have f1042 : fr S_Mod_readLineX h h1039 := fr_call f1022 fh1039 rfl
                  have g1049 : 0 ≤ o1043Z ∧ o1043Z ≤ 160 := inv_at hI1041 o1043E o1043K.symm rfl
                  have g1050 : 0 ≤ o1044Z ∧ o1044Z ≤ 160 := inv_at hI1041 o1044E o1044K.symm rfl
                  rcases (by omega : o1047Z ≠ 0 ∨ o1047Z = 0) with c1051 | c1051
                  ·
                    obtain ⟨hq0, hq⟩ := p1040.1.resolve_right (fun q => absurd q.1 c1051)
                    replace p1040 := p1040.2
                    refine V_aload_n 0 d_Mod_readLine_124 rfl rfl ?_
                    refine N_getK fa_Mod_102 sk_116 rfl d_Mod_readLine_125 o1047K ?_
                    refine V_if_ne 149 o1047E d_Mod_readLine_128 (by decide) (fun c1052 => ?_) (fun c1052 => ?_)
                    ·
                      refine V_aload_n 0 d_Mod_readLine_149 rfl rfl ?_
                      refine N_callVV [] [] cv_Mod_152 sk_116 rfl d_Mod_readLine_150 rfl (Nat.le_of_ble_eq_true rfl) (by decide) (by decide) (c_Mod_nextX h1039 b hI1041 s sZ sE (kn_call fh1039 (kn_call fh1019 (kn_call fh1005 (kn_call fh996 sK rfl) rfl) rfl) rfl) o1043 o1043Z o1043E o1043K o1044 o1044Z o1044E o1044K o1045 o1045Z o1045E o1045K o1046 o1046Z o1046E o1046K o1047 o1047Z o1047E o1047K o1048 o1048Z o1048E o1048K (TP_fr f1042 (fun _ => rfl) hy0) (by omega)) (fun h1054 p1055 => ?_)
                      obtain ⟨hI1056, fh1054, o1058, o1058Z, o1058E, o1058K, o1059, o1059Z, o1059E, o1059K, o1060, o1060Z, o1060E, o1060K, o1061, o1061Z, o1061E, o1061K, o1062, o1062Z, o1062E, o1062K, o1063, o1063Z, o1063E, o1063K, p1055⟩ := p1055
                      have f1057 : fr S_Mod_readLineX h h1054 := fr_call f1042 fh1054 rfl
                      have g1064 : 0 ≤ o1058Z ∧ o1058Z ≤ 160 := inv_at hI1056 o1058E o1058K.symm rfl
                      have g1065 : 0 ≤ o1059Z ∧ o1059Z ≤ 160 := inv_at hI1056 o1059E o1059K.symm rfl
                      exact V_vret rfl d_Mod_readLine_153 ⟨rfl, ⟨hI1056, f1057, o1058, o1058Z, o1058E, o1058K, o1059, o1059Z, o1059E, o1059K, o1060, o1060Z, o1060E, o1060K, o1061, o1061Z, o1061E, o1061K, o1062, o1062Z, o1062E, o1062K, o1063, o1063Z, o1063E, o1063K, ⟨Or.inl ⟨by omega, (x_line_3 rfl hH hL).trans (hq.trans (pq (by omega) (by omega)))⟩, by omega, by omega, by omega⟩⟩⟩
                    ·
                      exact absurd c1052 (by omega)
                  ·
                    obtain ⟨p10400, hl, p1040X, p1040R⟩ := p1040.1.resolve_left (fun q => absurd c1051 q.1)
                    replace p1040 := p1040.2
                    refine V_aload_n 0 d_Mod_readLine_124 rfl rfl ?_
                    refine N_getK fa_Mod_102 sk_116 rfl d_Mod_readLine_125 o1047K ?_
                    refine V_if_ne 149 o1047E d_Mod_readLine_128 (by decide) (fun c1066 => ?_) (fun c1066 => ?_)
                    ·
                      exact absurd c1066 (by omega)
                    ·
                      have g1067 := x_cS_s b (x_en b (x_en b (x_en b p0)))
                      refine V_aload_n 0 d_Mod_readLine_131 rfl rfl ?_
                      refine V_aload_n 0 d_Mod_readLine_132 rfl rfl ?_
                      refine N_getK fa_Mod_130 sk_116 rfl d_Mod_readLine_133 o1045K ?_
                      refine V_iconst 3 d_Mod_readLine_136 (by decide) ?_
                      refine V_icmp_ne 144 o1045E tc_3 d_Mod_readLine_137 (by decide) (fun c1068 => ?_) (fun c1068 => ?_)
                      ·
                        refine V_iconst 0 d_Mod_readLine_144 (by decide) ?_
                        refine V_iconst 2 d_Mod_readLine_145 (by decide) ?_
                        refine N_callVV [.int 0, .int 2] [] cv_Mod_144 sk_116 rfl d_Mod_readLine_146 rfl (Nat.le_of_ble_eq_true rfl) (by decide) (by decide) (c_Mod_needsX h1039 hI1041 0 0 tc_0 2 2 tc_2 o1044 o1044Z o1044E o1044K o1047 o1047Z o1047E o1047K o1048 o1048Z o1048E o1048K) (fun h1070 p1071 => ?_)
                        obtain ⟨hI1072, fh1070, o1074, o1074Z, o1074E, o1074K, o1075, o1075Z, o1075E, o1075K, p1071⟩ := p1071
                        have f1073 : fr S_Mod_readLineX h h1070 := fr_call f1042 fh1070 rfl
                        refine V_aload_n 0 d_Mod_readLine_149 rfl rfl ?_
                        refine N_callVV [] [] cv_Mod_152 sk_116 rfl d_Mod_readLine_150 rfl (Nat.le_of_ble_eq_true rfl) (by decide) (by decide) (c_Mod_nextX h1070 b hI1072 s sZ sE (kn_call fh1070 (kn_call fh1039 (kn_call fh1019 (kn_call fh1005 (kn_call fh996 sK rfl) rfl) rfl) rfl) rfl) o1043 o1043Z o1043E (kn_call fh1070 o1043K rfl) o1044 o1044Z o1044E (kn_call fh1070 o1044K rfl) o1045 o1045Z o1045E (kn_call fh1070 o1045K rfl) o1046 o1046Z o1046E (kn_call fh1070 o1046K rfl) o1074 o1074Z o1074E o1074K o1075 o1075Z o1075E o1075K (TP_fr f1073 (fun _ => rfl) hy0) (by omega)) (fun h1077 p1078 => ?_)
                        obtain ⟨hI1079, fh1077, o1081, o1081Z, o1081E, o1081K, o1082, o1082Z, o1082E, o1082K, o1083, o1083Z, o1083E, o1083K, o1084, o1084Z, o1084E, o1084K, o1085, o1085Z, o1085E, o1085K, o1086, o1086Z, o1086E, o1086K, p1078⟩ := p1078
                        have f1080 : fr S_Mod_readLineX h h1077 := fr_call f1073 fh1077 rfl
                        have g1087 : 0 ≤ o1081Z ∧ o1081Z ≤ 160 := inv_at hI1079 o1081E o1081K.symm rfl
                        have g1088 : 0 ≤ o1082Z ∧ o1082Z ≤ 160 := inv_at hI1079 o1082E o1082K.symm rfl
                        exact V_vret rfl d_Mod_readLine_153 ⟨rfl, ⟨hI1079, f1080, o1081, o1081Z, o1081E, o1081K, o1082, o1082Z, o1082E, o1082K, o1083, o1083Z, o1083E, o1083K, o1084, o1084Z, o1084E, o1084K, o1085, o1085Z, o1085E, o1085K, o1086, o1086Z, o1086E, o1086K, ⟨Or.inl ⟨by omega, (x_line_3 rfl hH hL).trans (hl.trans ((x_sq_y (by omega)).trans (pq (by omega) (by omega))))⟩, by omega, by omega, by omega⟩⟩⟩
                      ·
                        refine V_iconst 1 d_Mod_readLine_140 (by decide) ?_
                        refine V_goto 145 d_Mod_readLine_141 (by decide) ?_
                        refine V_iconst 2 d_Mod_readLine_145 (by decide) ?_
                        refine N_callVV [.int 1, .int 2] [] cv_Mod_144 sk_116 rfl d_Mod_readLine_146 rfl (Nat.le_of_ble_eq_true rfl) (by decide) (by decide) (c_Mod_needsX h1039 hI1041 1 1 tc_1 2 2 tc_2 o1044 o1044Z o1044E o1044K o1047 o1047Z o1047E o1047K o1048 o1048Z o1048E o1048K) (fun h1090 p1091 => ?_)
                        obtain ⟨hI1092, fh1090, o1094, o1094Z, o1094E, o1094K, o1095, o1095Z, o1095E, o1095K, p1091⟩ := p1091
                        have f1093 : fr S_Mod_readLineX h h1090 := fr_call f1042 fh1090 rfl
                        have R1096 : RM h1090 (x_upT T 3 (x_vl b (x_en b p0))) (x_up D (32 + (x_vl b (x_en b p0))) (x_vl b (x_en b (x_en b p0)))) := RM_fr fh1090 rfl p1040R
                        have g1097 : x_fr b o1043Z = x_fr b (x_en b (x_en b (x_en b (x_en b p0)))) := congrArg (x_fr b) (by omega)
                        have g1098 : x_kd b o1043Z = x_kd b (x_en b (x_en b (x_en b (x_en b p0)))) := congrArg (x_kd b) (by omega)
                        have g1099 : x_en b o1043Z = x_en b (x_en b (x_en b (x_en b (x_en b p0)))) := congrArg (x_en b) (by omega)
                        have g1100 : x_vl b o1043Z = x_vl b (x_en b (x_en b (x_en b (x_en b p0)))) := congrArg (x_vl b) (by omega)
                        have hmo := And.intro (x_fr_ge b p0) (And.intro (x_en_ge b (x_en b p0)) (x_en_ge b (x_en b (x_en b p0))))
                        refine V_aload_n 0 d_Mod_readLine_149 rfl rfl ?_
                        refine N_callVV [] [] cv_Mod_152 sk_116 rfl d_Mod_readLine_150 rfl (Nat.le_of_ble_eq_true rfl) (by decide) (by decide) (c_Mod_nextX h1090 b hI1092 s sZ sE (kn_call fh1090 (kn_call fh1039 (kn_call fh1019 (kn_call fh1005 (kn_call fh996 sK rfl) rfl) rfl) rfl) rfl) o1043 o1043Z o1043E (kn_call fh1090 o1043K rfl) o1044 o1044Z o1044E (kn_call fh1090 o1044K rfl) o1045 o1045Z o1045E (kn_call fh1090 o1045K rfl) o1046 o1046Z o1046E (kn_call fh1090 o1046K rfl) o1094 o1094Z o1094E o1094K o1095 o1095Z o1095E o1095K (TP_fr f1093 (fun _ => rfl) hy0) (by omega)) (fun h1102 p1103 => ?_)
                        obtain ⟨hI1104, fh1102, o1106, o1106Z, o1106E, o1106K, o1107, o1107Z, o1107E, o1107K, o1108, o1108Z, o1108E, o1108K, o1109, o1109Z, o1109E, o1109K, o1110, o1110Z, o1110E, o1110K, o1111, o1111Z, o1111E, o1111K, p1103⟩ := p1103
                        have f1105 : fr S_Mod_readLineX h h1102 := fr_call f1093 fh1102 rfl
                        have R1112 : RM h1102 (x_upT T 3 (x_vl b (x_en b p0))) (x_up D (32 + (x_vl b (x_en b p0))) (x_vl b (x_en b (x_en b p0)))) := RM_fr fh1102 rfl R1096
                        have g1113 : 0 ≤ o1106Z ∧ o1106Z ≤ 160 := inv_at hI1104 o1106E o1106K.symm rfl
                        have g1114 : 0 ≤ o1107Z ∧ o1107Z ≤ 160 := inv_at hI1104 o1107E o1107K.symm rfl
                        exact V_vret rfl d_Mod_readLine_153 ⟨rfl, ⟨hI1104, f1105, o1106, o1106Z, o1106E, o1106K, o1107, o1107Z, o1107E, o1107K, o1108, o1108Z, o1108E, o1108K, o1109, o1109Z, o1109E, o1109K, o1110, o1110Z, o1110E, o1110K, o1111, o1111Z, o1111E, o1111K, ⟨Or.inr ⟨x_en b (x_en b (x_en b (x_en b p0))), (x_line_3 rfl hH hL).trans (hl.trans (x_sq_n (by omega))), by omega, by omega, (by rw [x_T_3 T (u := x_en b p0) rfl hL, x_D_3 D (u := x_en b p0) rfl hL]; exact R1112), (if q9 : o1110Z = 0 then Or.inr ⟨q9, by omega, by omega, by omega, by omega, by omega, by omega, by omega, by omega, by omega, by omega, by omega⟩ else Or.inl ⟨by omega, by omega, by omega⟩)⟩, by omega, by omega, by omega⟩⟩⟩
                ·
                  exact absurd c1035 (by omega)
            ·
              exact absurd c1013 (by decide)
        ·
          exact absurd c1003 (by decide)
    ·
      obtain rfl : z41 = 7 := (ti_eq z41E tc_7).mpr c44
      subst c44
      have hL : x_li b p0 = 4 := by omega
      clear p43
      refine V_aload_n 0 d_Mod_readLine_18 rfl rfl ?_
      refine V_iload_n 1 d_Mod_readLine_19 rfl rfl ?_
      refine V_bipush (-4) d_Mod_readLine_20 (by decide) ?_
      refine V_icmp_eq 29 tc_7 tc_m4 d_Mod_readLine_22 (by decide) (fun c1115 => ?_) (fun c1115 => ?_)
      ·
        exact absurd c1115 (by decide)
      ·
        refine V_iconst 1 d_Mod_readLine_25 (by decide) ?_
        refine V_goto 30 d_Mod_readLine_26 (by decide) ?_
        refine V_iconst 2 d_Mod_readLine_30 (by decide) ?_
        refine N_callVV [.int 1, .int 2] [] cv_Mod_144 sk_116 rfl d_Mod_readLine_31 rfl (Nat.le_of_ble_eq_true rfl) (by decide) (by decide) (c_Mod_needsX h hI 1 1 tc_1 2 2 tc_2 g gZ gE gK w wZ wE wK a aZ aE aK) (fun h1117 p1118 => ?_)
        obtain ⟨hI1119, fh1117, o1121, o1121Z, o1121E, o1121K, o1122, o1122Z, o1122E, o1122K, p1118⟩ := p1118
        have f1120 : fr S_Mod_readLineX h h1117 := fr_call f0 fh1117 rfl
        have R1123 : RM h1117 T D := RM_fr fh1117 rfl hy3
        refine V_aload_n 0 d_Mod_readLine_34 rfl rfl ?_
        refine V_iload_n 1 d_Mod_readLine_35 rfl rfl ?_
        refine V_bipush 9 d_Mod_readLine_36 (by decide) ?_
        refine V_icmp_ne 53 tc_7 tc_9 d_Mod_readLine_38 (by decide) (fun c1124 => ?_) (fun c1124 => ?_)
        ·
          refine V_iconst 1 d_Mod_readLine_53 (by decide) ?_
          refine V_goto 58 d_Mod_readLine_54 (by decide) ?_
          refine V_iconst 5 d_Mod_readLine_58 (by decide) ?_
          refine N_callVV [.int 1, .int 5] [] cv_Mod_144 sk_116 rfl d_Mod_readLine_59 rfl (Nat.le_of_ble_eq_true rfl) (by decide) (by decide) (c_Mod_needsX h1117 hI1119 1 1 tc_1 5 5 tc_5 g gZ gE (kn_call fh1117 gK rfl) o1121 o1121Z o1121E o1121K o1122 o1122Z o1122E o1122K) (fun h1126 p1127 => ?_)
          obtain ⟨hI1128, fh1126, o1130, o1130Z, o1130E, o1130K, o1131, o1131Z, o1131E, o1131K, p1127⟩ := p1127
          have f1129 : fr S_Mod_readLineX h h1126 := fr_call f1120 fh1126 rfl
          have R1132 : RM h1126 T D := RM_fr fh1126 rfl R1123
          refine V_aload_n 0 d_Mod_readLine_62 rfl rfl ?_
          refine N_getK fa_Mod_102 sk_116 rfl d_Mod_readLine_63 o1130K ?_
          refine V_if_ne 107 o1130E d_Mod_readLine_66 (by decide) (fun c1133 => ?_) (fun c1133 => ?_)
          ·
            exact absurd c1133 (by omega)
          ·
            refine V_iload_n 1 d_Mod_readLine_69 rfl rfl ?_
            refine V_iconst 3 d_Mod_readLine_70 (by decide) ?_
            refine V_icmp_gt 107 tc_7 tc_3 d_Mod_readLine_71 (by decide) (fun c1134 => ?_) (fun c1134 => ?_)
            ·
              have g1135 : x_fr b pZ = x_fr b (x_en b p0) := congrArg (x_fr b) (by omega)
              have g1136 : x_kd b pZ = x_kd b (x_en b p0) := congrArg (x_kd b) (by omega)
              have g1137 : x_en b pZ = x_en b (x_en b p0) := congrArg (x_en b) (by omega)
              have g1138 : x_vl b pZ = x_vl b (x_en b p0) := congrArg (x_vl b) (by omega)
              refine V_aload_n 0 d_Mod_readLine_107 rfl rfl ?_
              refine N_callVV [] [] cv_Mod_152 sk_116 rfl d_Mod_readLine_108 rfl (Nat.le_of_ble_eq_true rfl) (by decide) (by decide) (c_Mod_nextX h1126 b hI1128 s sZ sE (kn_call fh1126 (kn_call fh1117 sK rfl) rfl) p pZ pE (kn_call fh1126 (kn_call fh1117 pK rfl) rfl) g gZ gE (kn_call fh1126 (kn_call fh1117 gK rfl) rfl) k kZ kE (kn_call fh1126 (kn_call fh1117 kK rfl) rfl) v vZ vE (kn_call fh1126 (kn_call fh1117 vK rfl) rfl) o1130 o1130Z o1130E o1130K o1131 o1131Z o1131E o1131K (TP_fr f1129 (fun _ => rfl) hy0) (by omega)) (fun h1140 p1141 => ?_)
              obtain ⟨hI1142, fh1140, o1144, o1144Z, o1144E, o1144K, o1145, o1145Z, o1145E, o1145K, o1146, o1146Z, o1146E, o1146K, o1147, o1147Z, o1147E, o1147K, o1148, o1148Z, o1148E, o1148K, o1149, o1149Z, o1149E, o1149K, p1141⟩ := p1141
              have f1143 : fr S_Mod_readLineX h h1140 := fr_call f1129 fh1140 rfl
              have R1150 : RM h1140 T D := RM_fr fh1140 rfl R1132
              have g1151 : 0 ≤ o1144Z ∧ o1144Z ≤ 160 := inv_at hI1142 o1144E o1144K.symm rfl
              have g1152 : 0 ≤ o1145Z ∧ o1145Z ≤ 160 := inv_at hI1142 o1145E o1145K.symm rfl
              rcases (by omega : o1148Z ≠ 0 ∨ o1148Z = 0) with c1153 | c1153
              ·
                replace p1141 := p1141.resolve_left (fun q => by omega)
                have hH : x_cH b T (D 86) p0 = 0 := by have q := x_cH_s b T (D 86) p0; omega
                have g1154 := x_cN_s b (x_en b p0) 0 15
                refine V_aload_n 0 d_Mod_readLine_111 rfl rfl ?_
                refine N_getK fa_Mod_102 sk_116 rfl d_Mod_readLine_112 o1148K ?_
                refine V_if_le 119 o1148E d_Mod_readLine_115 (by decide) (fun c1155 => ?_) (fun c1155 => ?_)
                ·
                  exact absurd c1155 (by omega)
                ·
                  exact V_vret rfl d_Mod_readLine_118 ⟨rfl, ⟨hI1142, f1143, o1144, o1144Z, o1144E, o1144K, o1145, o1145Z, o1145E, o1145K, o1146, o1146Z, o1146E, o1146K, o1147, o1147Z, o1147E, o1147K, o1148, o1148Z, o1148E, o1148K, o1149, o1149Z, o1149E, o1149K, ⟨Or.inl ⟨by omega, (x_line_4 rfl hH hL).trans ((show x_l4 b T (x_en b p0) = (x_cN b (x_en b p0) 0 15, x_fr b (x_en b p0)) from by unfold x_l4; rw [x_sq_y (c := x_cN b (x_en b p0) 0 15) (by omega)]).trans (pq (by omega) (by omega)))⟩, by omega, by omega, by omega⟩⟩⟩
              ·
                replace p1141 := p1141.resolve_left (fun q => by omega)
                have hH : x_cH b T (D 86) p0 = 0 := by have q := x_cH_s b T (D 86) p0; omega
                refine V_aload_n 0 d_Mod_readLine_111 rfl rfl ?_
                refine N_getK fa_Mod_102 sk_116 rfl d_Mod_readLine_112 o1148K ?_
                refine V_if_le 119 o1148E d_Mod_readLine_115 (by decide) (fun c1156 => ?_) (fun c1156 => ?_)
                ·
                  refine V_aload_n 0 d_Mod_readLine_119 rfl rfl ?_
                  refine V_iload_n 1 d_Mod_readLine_120 rfl rfl ?_
                  obtain ⟨z1157, z1157Z, z1157E, z1157e⟩ : ∃ (y : Int32) (Y : Int), y.toInt = Y ∧ y = h1140.1 120 3 := ⟨_, _, rfl, rfl⟩
                  obtain ⟨z1158, z1158Z, z1158E, z1158e⟩ : ∃ (y : Int32) (Y : Int), y.toInt = Y ∧ y = h1140.1 116 13 := ⟨_, _, rfl, rfl⟩
                  refine N_callVV [.int 7] [] cv_Mod_177 sk_116 rfl d_Mod_readLine_121 rfl (Nat.le_of_ble_eq_true rfl) (by decide) (by decide) (c_Mod_readLineOfX_7 h1140 b T D (x_en b p0) hI1142 s sZ sE (kn_call fh1140 (kn_call fh1126 (kn_call fh1117 sK rfl) rfl) rfl) o1144 o1144Z o1144E o1144K o1145 o1145Z o1145E o1145K o1146 o1146Z o1146E o1146K o1147 o1147Z o1147E o1147K o1148 o1148Z o1148E o1148K o1149 o1149Z o1149E o1149K z1157 z1157Z z1157E z1157e.symm z1158 z1158Z z1158E z1158e.symm (TP_fr f1143 (fun _ => rfl) hy0) (by omega) ⟨by omega, by omega, by omega, by omega, by omega, by omega, by omega, by omega, by omega, by omega, by omega⟩ R1150) (fun h1160 p1161 => ?_)
                  obtain ⟨hI1162, fh1160, o1164, o1164Z, o1164E, o1164K, o1165, o1165Z, o1165E, o1165K, o1166, o1166Z, o1166E, o1166K, o1167, o1167Z, o1167E, o1167K, o1168, o1168Z, o1168E, o1168K, o1169, o1169Z, o1169E, o1169K, p1161⟩ := p1161
                  have f1163 : fr S_Mod_readLineX h h1160 := fr_call f1143 fh1160 rfl
                  have g1170 : 0 ≤ o1164Z ∧ o1164Z ≤ 160 := inv_at hI1162 o1164E o1164K.symm rfl
                  have g1171 : 0 ≤ o1165Z ∧ o1165Z ≤ 160 := inv_at hI1162 o1165E o1165K.symm rfl
                  rcases (by omega : o1168Z ≠ 0 ∨ o1168Z = 0) with c1172 | c1172
                  ·
                    obtain ⟨hq0, hq⟩ := p1161.1.resolve_right (fun q => absurd q.1 c1172)
                    replace p1161 := p1161.2
                    refine V_aload_n 0 d_Mod_readLine_124 rfl rfl ?_
                    refine N_getK fa_Mod_102 sk_116 rfl d_Mod_readLine_125 o1168K ?_
                    refine V_if_ne 149 o1168E d_Mod_readLine_128 (by decide) (fun c1173 => ?_) (fun c1173 => ?_)
                    ·
                      refine V_aload_n 0 d_Mod_readLine_149 rfl rfl ?_
                      refine N_callVV [] [] cv_Mod_152 sk_116 rfl d_Mod_readLine_150 rfl (Nat.le_of_ble_eq_true rfl) (by decide) (by decide) (c_Mod_nextX h1160 b hI1162 s sZ sE (kn_call fh1160 (kn_call fh1140 (kn_call fh1126 (kn_call fh1117 sK rfl) rfl) rfl) rfl) o1164 o1164Z o1164E o1164K o1165 o1165Z o1165E o1165K o1166 o1166Z o1166E o1166K o1167 o1167Z o1167E o1167K o1168 o1168Z o1168E o1168K o1169 o1169Z o1169E o1169K (TP_fr f1163 (fun _ => rfl) hy0) (by omega)) (fun h1175 p1176 => ?_)
                      obtain ⟨hI1177, fh1175, o1179, o1179Z, o1179E, o1179K, o1180, o1180Z, o1180E, o1180K, o1181, o1181Z, o1181E, o1181K, o1182, o1182Z, o1182E, o1182K, o1183, o1183Z, o1183E, o1183K, o1184, o1184Z, o1184E, o1184K, p1176⟩ := p1176
                      have f1178 : fr S_Mod_readLineX h h1175 := fr_call f1163 fh1175 rfl
                      have g1185 : 0 ≤ o1179Z ∧ o1179Z ≤ 160 := inv_at hI1177 o1179E o1179K.symm rfl
                      have g1186 : 0 ≤ o1180Z ∧ o1180Z ≤ 160 := inv_at hI1177 o1180E o1180K.symm rfl
                      exact V_vret rfl d_Mod_readLine_153 ⟨rfl, ⟨hI1177, f1178, o1179, o1179Z, o1179E, o1179K, o1180, o1180Z, o1180E, o1180K, o1181, o1181Z, o1181E, o1181K, o1182, o1182Z, o1182E, o1182K, o1183, o1183Z, o1183E, o1183K, o1184, o1184Z, o1184E, o1184K, ⟨Or.inl ⟨by omega, (x_line_4 rfl hH hL).trans (hq.trans (pq (by omega) (by omega)))⟩, by omega, by omega, by omega⟩⟩⟩
                    ·
                      exact absurd c1173 (by omega)
                  ·
                    obtain ⟨p11610, hl, p1161X, p1161R⟩ := p1161.1.resolve_left (fun q => absurd c1172 q.1)
                    replace p1161 := p1161.2
                    refine V_aload_n 0 d_Mod_readLine_124 rfl rfl ?_
                    refine N_getK fa_Mod_102 sk_116 rfl d_Mod_readLine_125 o1168K ?_
                    refine V_if_ne 149 o1168E d_Mod_readLine_128 (by decide) (fun c1187 => ?_) (fun c1187 => ?_)
                    ·
                      exact absurd c1187 (by omega)
                    ·
                      have g1188 := x_cS_s b (x_en b (x_en b (x_en b p0)))
                      refine V_aload_n 0 d_Mod_readLine_131 rfl rfl ?_
                      refine V_aload_n 0 d_Mod_readLine_132 rfl rfl ?_
                      refine N_getK fa_Mod_130 sk_116 rfl d_Mod_readLine_133 o1166K ?_
                      refine V_iconst 3 d_Mod_readLine_136 (by decide) ?_
                      refine V_icmp_ne 144 o1166E tc_3 d_Mod_readLine_137 (by decide) (fun c1189 => ?_) (fun c1189 => ?_)
                      ·
                        refine V_iconst 0 d_Mod_readLine_144 (by decide) ?_
                        refine V_iconst 2 d_Mod_readLine_145 (by decide) ?_
                        refine N_callVV [.int 0, .int 2] [] cv_Mod_144 sk_116 rfl d_Mod_readLine_146 rfl (Nat.le_of_ble_eq_true rfl) (by decide) (by decide) (c_Mod_needsX h1160 hI1162 0 0 tc_0 2 2 tc_2 o1165 o1165Z o1165E o1165K o1168 o1168Z o1168E o1168K o1169 o1169Z o1169E o1169K) (fun h1191 p1192 => ?_)
                        obtain ⟨hI1193, fh1191, o1195, o1195Z, o1195E, o1195K, o1196, o1196Z, o1196E, o1196K, p1192⟩ := p1192
                        have f1194 : fr S_Mod_readLineX h h1191 := fr_call f1163 fh1191 rfl
                        refine V_aload_n 0 d_Mod_readLine_149 rfl rfl ?_
                        refine N_callVV [] [] cv_Mod_152 sk_116 rfl d_Mod_readLine_150 rfl (Nat.le_of_ble_eq_true rfl) (by decide) (by decide) (c_Mod_nextX h1191 b hI1193 s sZ sE (kn_call fh1191 (kn_call fh1160 (kn_call fh1140 (kn_call fh1126 (kn_call fh1117 sK rfl) rfl) rfl) rfl) rfl) o1164 o1164Z o1164E (kn_call fh1191 o1164K rfl) o1165 o1165Z o1165E (kn_call fh1191 o1165K rfl) o1166 o1166Z o1166E (kn_call fh1191 o1166K rfl) o1167 o1167Z o1167E (kn_call fh1191 o1167K rfl) o1195 o1195Z o1195E o1195K o1196 o1196Z o1196E o1196K (TP_fr f1194 (fun _ => rfl) hy0) (by omega)) (fun h1198 p1199 => ?_)
                        obtain ⟨hI1200, fh1198, o1202, o1202Z, o1202E, o1202K, o1203, o1203Z, o1203E, o1203K, o1204, o1204Z, o1204E, o1204K, o1205, o1205Z, o1205E, o1205K, o1206, o1206Z, o1206E, o1206K, o1207, o1207Z, o1207E, o1207K, p1199⟩ := p1199
                        have f1201 : fr S_Mod_readLineX h h1198 := fr_call f1194 fh1198 rfl
                        have g1208 : 0 ≤ o1202Z ∧ o1202Z ≤ 160 := inv_at hI1200 o1202E o1202K.symm rfl
                        have g1209 : 0 ≤ o1203Z ∧ o1203Z ≤ 160 := inv_at hI1200 o1203E o1203K.symm rfl
                        exact V_vret rfl d_Mod_readLine_153 ⟨rfl, ⟨hI1200, f1201, o1202, o1202Z, o1202E, o1202K, o1203, o1203Z, o1203E, o1203K, o1204, o1204Z, o1204E, o1204K, o1205, o1205Z, o1205E, o1205K, o1206, o1206Z, o1206E, o1206K, o1207, o1207Z, o1207E, o1207K, ⟨Or.inl ⟨by omega, (x_line_4 rfl hH hL).trans (hl.trans ((x_sq_y (by omega)).trans (pq (by omega) (by omega))))⟩, by omega, by omega, by omega⟩⟩⟩
                      ·
                        refine V_iconst 1 d_Mod_readLine_140 (by decide) ?_
                        refine V_goto 145 d_Mod_readLine_141 (by decide) ?_
                        refine V_iconst 2 d_Mod_readLine_145 (by decide) ?_
                        refine N_callVV [.int 1, .int 2] [] cv_Mod_144 sk_116 rfl d_Mod_readLine_146 rfl (Nat.le_of_ble_eq_true rfl) (by decide) (by decide) (c_Mod_needsX h1160 hI1162 1 1 tc_1 2 2 tc_2 o1165 o1165Z o1165E o1165K o1168 o1168Z o1168E o1168K o1169 o1169Z o1169E o1169K) (fun h1211 p1212 => ?_)
                        obtain ⟨hI1213, fh1211, o1215, o1215Z, o1215E, o1215K, o1216, o1216Z, o1216E, o1216K, p1212⟩ := p1212
                        have f1214 : fr S_Mod_readLineX h h1211 := fr_call f1163 fh1211 rfl
                        have R1217 : RM h1211 (x_upT T 4 (x_vl b (x_en b p0))) (x_up D (48 + (x_vl b (x_en b p0))) (x_vl b (x_en b (x_en b p0)))) := RM_fr fh1211 rfl p1161R
                        have g1218 : x_fr b o1164Z = x_fr b (x_en b (x_en b (x_en b (x_en b p0)))) := congrArg (x_fr b) (by omega)
                        have g1219 : x_kd b o1164Z = x_kd b (x_en b (x_en b (x_en b (x_en b p0)))) := congrArg (x_kd b) (by omega)
                        have g1220 : x_en b o1164Z = x_en b (x_en b (x_en b (x_en b (x_en b p0)))) := congrArg (x_en b) (by omega)
                        have g1221 : x_vl b o1164Z = x_vl b (x_en b (x_en b (x_en b (x_en b p0)))) := congrArg (x_vl b) (by omega)
                        have hmo := And.intro (x_fr_ge b p0) (And.intro (x_en_ge b (x_en b p0)) (x_en_ge b (x_en b (x_en b p0))))
                        refine V_aload_n 0 d_Mod_readLine_149 rfl rfl ?_
                        refine N_callVV [] [] cv_Mod_152 sk_116 rfl d_Mod_readLine_150 rfl (Nat.le_of_ble_eq_true rfl) (by decide) (by decide) (c_Mod_nextX h1211 b hI1213 s sZ sE (kn_call fh1211 (kn_call fh1160 (kn_call fh1140 (kn_call fh1126 (kn_call fh1117 sK rfl) rfl) rfl) rfl) rfl) o1164 o1164Z o1164E (kn_call fh1211 o1164K rfl) o1165 o1165Z o1165E (kn_call fh1211 o1165K rfl) o1166 o1166Z o1166E (kn_call fh1211 o1166K rfl) o1167 o1167Z o1167E (kn_call fh1211 o1167K rfl) o1215 o1215Z o1215E o1215K o1216 o1216Z o1216E o1216K (TP_fr f1214 (fun _ => rfl) hy0) (by omega)) (fun h1223 p1224 => ?_)
                        obtain ⟨hI1225, fh1223, o1227, o1227Z, o1227E, o1227K, o1228, o1228Z, o1228E, o1228K, o1229, o1229Z, o1229E, o1229K, o1230, o1230Z, o1230E, o1230K, o1231, o1231Z, o1231E, o1231K, o1232, o1232Z, o1232E, o1232K, p1224⟩ := p1224
                        have f1226 : fr S_Mod_readLineX h h1223 := fr_call f1214 fh1223 rfl
                        have R1233 : RM h1223 (x_upT T 4 (x_vl b (x_en b p0))) (x_up D (48 + (x_vl b (x_en b p0))) (x_vl b (x_en b (x_en b p0)))) := RM_fr fh1223 rfl R1217
                        have g1234 : 0 ≤ o1227Z ∧ o1227Z ≤ 160 := inv_at hI1225 o1227E o1227K.symm rfl
                        have g1235 : 0 ≤ o1228Z ∧ o1228Z ≤ 160 := inv_at hI1225 o1228E o1228K.symm rfl
                        exact V_vret rfl d_Mod_readLine_153 ⟨rfl, ⟨hI1225, f1226, o1227, o1227Z, o1227E, o1227K, o1228, o1228Z, o1228E, o1228K, o1229, o1229Z, o1229E, o1229K, o1230, o1230Z, o1230E, o1230K, o1231, o1231Z, o1231E, o1231K, o1232, o1232Z, o1232E, o1232K, ⟨Or.inr ⟨x_en b (x_en b (x_en b (x_en b p0))), (x_line_4 rfl hH hL).trans (hl.trans (x_sq_n (by omega))), by omega, by omega, (by rw [x_T_4 T (u := x_en b p0) rfl hL, x_D_4 D (u := x_en b p0) rfl hL]; exact R1233), (if q9 : o1231Z = 0 then Or.inr ⟨q9, by omega, by omega, by omega, by omega, by omega, by omega, by omega, by omega, by omega, by omega, by omega⟩ else Or.inl ⟨by omega, by omega, by omega⟩)⟩, by omega, by omega, by omega⟩⟩⟩
                ·
                  exact absurd c1156 (by omega)
            ·
              exact absurd c1134 (by decide)
        ·
          exact absurd c1124 (by decide)
    ·
      obtain rfl : z41 = 8 := (ti_eq z41E tc_8).mpr c44
      subst c44
      have hL : x_li b p0 = 5 := by omega
      clear p43
      refine V_aload_n 0 d_Mod_readLine_18 rfl rfl ?_
      refine V_iload_n 1 d_Mod_readLine_19 rfl rfl ?_
      refine V_bipush (-4) d_Mod_readLine_20 (by decide) ?_
      refine V_icmp_eq 29 tc_8 tc_m4 d_Mod_readLine_22 (by decide) (fun c1236 => ?_) (fun c1236 => ?_)
      ·
        exact absurd c1236 (by decide)
      ·
        refine V_iconst 1 d_Mod_readLine_25 (by decide) ?_
        refine V_goto 30 d_Mod_readLine_26 (by decide) ?_
        refine V_iconst 2 d_Mod_readLine_30 (by decide) ?_
        refine N_callVV [.int 1, .int 2] [] cv_Mod_144 sk_116 rfl d_Mod_readLine_31 rfl (Nat.le_of_ble_eq_true rfl) (by decide) (by decide) (c_Mod_needsX h hI 1 1 tc_1 2 2 tc_2 g gZ gE gK w wZ wE wK a aZ aE aK) (fun h1238 p1239 => ?_)
        obtain ⟨hI1240, fh1238, o1242, o1242Z, o1242E, o1242K, o1243, o1243Z, o1243E, o1243K, p1239⟩ := p1239
        have f1241 : fr S_Mod_readLineX h h1238 := fr_call f0 fh1238 rfl
        have R1244 : RM h1238 T D := RM_fr fh1238 rfl hy3
        refine V_aload_n 0 d_Mod_readLine_34 rfl rfl ?_
        refine V_iload_n 1 d_Mod_readLine_35 rfl rfl ?_
        refine V_bipush 9 d_Mod_readLine_36 (by decide) ?_
        refine V_icmp_ne 53 tc_8 tc_9 d_Mod_readLine_38 (by decide) (fun c1245 => ?_) (fun c1245 => ?_)
        ·
          refine V_iconst 1 d_Mod_readLine_53 (by decide) ?_
          refine V_goto 58 d_Mod_readLine_54 (by decide) ?_
          refine V_iconst 5 d_Mod_readLine_58 (by decide) ?_
          refine N_callVV [.int 1, .int 5] [] cv_Mod_144 sk_116 rfl d_Mod_readLine_59 rfl (Nat.le_of_ble_eq_true rfl) (by decide) (by decide) (c_Mod_needsX h1238 hI1240 1 1 tc_1 5 5 tc_5 g gZ gE (kn_call fh1238 gK rfl) o1242 o1242Z o1242E o1242K o1243 o1243Z o1243E o1243K) (fun h1247 p1248 => ?_)
          obtain ⟨hI1249, fh1247, o1251, o1251Z, o1251E, o1251K, o1252, o1252Z, o1252E, o1252K, p1248⟩ := p1248
          have f1250 : fr S_Mod_readLineX h h1247 := fr_call f1241 fh1247 rfl
          have R1253 : RM h1247 T D := RM_fr fh1247 rfl R1244
          refine V_aload_n 0 d_Mod_readLine_62 rfl rfl ?_
          refine N_getK fa_Mod_102 sk_116 rfl d_Mod_readLine_63 o1251K ?_
          refine V_if_ne 107 o1251E d_Mod_readLine_66 (by decide) (fun c1254 => ?_) (fun c1254 => ?_)
          ·
            exact absurd c1254 (by omega)
          ·
            refine V_iload_n 1 d_Mod_readLine_69 rfl rfl ?_
            refine V_iconst 3 d_Mod_readLine_70 (by decide) ?_
            refine V_icmp_gt 107 tc_8 tc_3 d_Mod_readLine_71 (by decide) (fun c1255 => ?_) (fun c1255 => ?_)
            ·
              have g1256 : x_fr b pZ = x_fr b (x_en b p0) := congrArg (x_fr b) (by omega)
              have g1257 : x_kd b pZ = x_kd b (x_en b p0) := congrArg (x_kd b) (by omega)
              have g1258 : x_en b pZ = x_en b (x_en b p0) := congrArg (x_en b) (by omega)
              have g1259 : x_vl b pZ = x_vl b (x_en b p0) := congrArg (x_vl b) (by omega)
              refine V_aload_n 0 d_Mod_readLine_107 rfl rfl ?_
              refine N_callVV [] [] cv_Mod_152 sk_116 rfl d_Mod_readLine_108 rfl (Nat.le_of_ble_eq_true rfl) (by decide) (by decide) (c_Mod_nextX h1247 b hI1249 s sZ sE (kn_call fh1247 (kn_call fh1238 sK rfl) rfl) p pZ pE (kn_call fh1247 (kn_call fh1238 pK rfl) rfl) g gZ gE (kn_call fh1247 (kn_call fh1238 gK rfl) rfl) k kZ kE (kn_call fh1247 (kn_call fh1238 kK rfl) rfl) v vZ vE (kn_call fh1247 (kn_call fh1238 vK rfl) rfl) o1251 o1251Z o1251E o1251K o1252 o1252Z o1252E o1252K (TP_fr f1250 (fun _ => rfl) hy0) (by omega)) (fun h1261 p1262 => ?_)
              obtain ⟨hI1263, fh1261, o1265, o1265Z, o1265E, o1265K, o1266, o1266Z, o1266E, o1266K, o1267, o1267Z, o1267E, o1267K, o1268, o1268Z, o1268E, o1268K, o1269, o1269Z, o1269E, o1269K, o1270, o1270Z, o1270E, o1270K, p1262⟩ := p1262
              have f1264 : fr S_Mod_readLineX h h1261 := fr_call f1250 fh1261 rfl
              have R1271 : RM h1261 T D := RM_fr fh1261 rfl R1253
              have g1272 : 0 ≤ o1265Z ∧ o1265Z ≤ 160 := inv_at hI1263 o1265E o1265K.symm rfl
              have g1273 : 0 ≤ o1266Z ∧ o1266Z ≤ 160 := inv_at hI1263 o1266E o1266K.symm rfl
              rcases (by omega : o1269Z ≠ 0 ∨ o1269Z = 0) with c1274 | c1274
              ·
                replace p1262 := p1262.resolve_left (fun q => by omega)
                have hH : x_cH b T (D 86) p0 = 0 := by have q := x_cH_s b T (D 86) p0; omega
                have g1275 := x_cN_s b (x_en b p0) 0 3
                refine V_aload_n 0 d_Mod_readLine_111 rfl rfl ?_
                refine N_getK fa_Mod_102 sk_116 rfl d_Mod_readLine_112 o1269K ?_
                refine V_if_le 119 o1269E d_Mod_readLine_115 (by decide) (fun c1276 => ?_) (fun c1276 => ?_)
                ·
                  exact absurd c1276 (by omega)
                ·
                  exact V_vret rfl d_Mod_readLine_118 ⟨rfl, ⟨hI1263, f1264, o1265, o1265Z, o1265E, o1265K, o1266, o1266Z, o1266E, o1266K, o1267, o1267Z, o1267E, o1267K, o1268, o1268Z, o1268E, o1268K, o1269, o1269Z, o1269E, o1269K, o1270, o1270Z, o1270E, o1270K, ⟨Or.inl ⟨by omega, (x_line_5 rfl hH hL).trans ((show x_l5 b T (x_en b p0) = (x_cN b (x_en b p0) 0 3, x_fr b (x_en b p0)) from by unfold x_l5; rw [x_sq_y (c := x_cN b (x_en b p0) 0 3) (by omega)]).trans (pq (by omega) (by omega)))⟩, by omega, by omega, by omega⟩⟩⟩
              ·
                replace p1262 := p1262.resolve_left (fun q => by omega)
                have hH : x_cH b T (D 86) p0 = 0 := by have q := x_cH_s b T (D 86) p0; omega
                refine V_aload_n 0 d_Mod_readLine_111 rfl rfl ?_
                refine N_getK fa_Mod_102 sk_116 rfl d_Mod_readLine_112 o1269K ?_
                refine V_if_le 119 o1269E d_Mod_readLine_115 (by decide) (fun c1277 => ?_) (fun c1277 => ?_)
                ·
                  refine V_aload_n 0 d_Mod_readLine_119 rfl rfl ?_
                  refine V_iload_n 1 d_Mod_readLine_120 rfl rfl ?_
                  obtain ⟨z1278, z1278Z, z1278E, z1278e⟩ : ∃ (y : Int32) (Y : Int), y.toInt = Y ∧ y = h1261.1 120 4 := ⟨_, _, rfl, rfl⟩
                  obtain ⟨z1279, z1279Z, z1279E, z1279e⟩ : ∃ (y : Int32) (Y : Int), y.toInt = Y ∧ y = h1261.1 116 13 := ⟨_, _, rfl, rfl⟩
                  refine N_callVV [.int 8] [] cv_Mod_177 sk_116 rfl d_Mod_readLine_121 rfl (Nat.le_of_ble_eq_true rfl) (by decide) (by decide) (c_Mod_readLineOfX_8 h1261 b T D (x_en b p0) hI1263 s sZ sE (kn_call fh1261 (kn_call fh1247 (kn_call fh1238 sK rfl) rfl) rfl) o1265 o1265Z o1265E o1265K o1266 o1266Z o1266E o1266K o1267 o1267Z o1267E o1267K o1268 o1268Z o1268E o1268K o1269 o1269Z o1269E o1269K o1270 o1270Z o1270E o1270K z1278 z1278Z z1278E z1278e.symm z1279 z1279Z z1279E z1279e.symm (TP_fr f1264 (fun _ => rfl) hy0) (by omega) ⟨by omega, by omega, by omega, by omega, by omega, by omega, by omega, by omega, by omega, by omega, by omega⟩ R1271) (fun h1281 p1282 => ?_)
                  obtain ⟨hI1283, fh1281, o1285, o1285Z, o1285E, o1285K, o1286, o1286Z, o1286E, o1286K, o1287, o1287Z, o1287E, o1287K, o1288, o1288Z, o1288E, o1288K, o1289, o1289Z, o1289E, o1289K, o1290, o1290Z, o1290E, o1290K, p1282⟩ := p1282
                  have f1284 : fr S_Mod_readLineX h h1281 := fr_call f1264 fh1281 rfl
                  have g1291 : 0 ≤ o1285Z ∧ o1285Z ≤ 160 := inv_at hI1283 o1285E o1285K.symm rfl
                  have g1292 : 0 ≤ o1286Z ∧ o1286Z ≤ 160 := inv_at hI1283 o1286E o1286K.symm rfl
                  rcases (by omega : o1289Z ≠ 0 ∨ o1289Z = 0) with c1293 | c1293
                  ·
                    obtain ⟨hq0, hq⟩ := p1282.1.resolve_right (fun q => absurd q.1 c1293)
                    replace p1282 := p1282.2
                    refine V_aload_n 0 d_Mod_readLine_124 rfl rfl ?_
                    refine N_getK fa_Mod_102 sk_116 rfl d_Mod_readLine_125 o1289K ?_
                    refine V_if_ne 149 o1289E d_Mod_readLine_128 (by decide) (fun c1294 => ?_) (fun c1294 => ?_)
                    ·
                      refine V_aload_n 0 d_Mod_readLine_149 rfl rfl ?_
                      refine N_callVV [] [] cv_Mod_152 sk_116 rfl d_Mod_readLine_150 rfl (Nat.le_of_ble_eq_true rfl) (by decide) (by decide) (c_Mod_nextX h1281 b hI1283 s sZ sE (kn_call fh1281 (kn_call fh1261 (kn_call fh1247 (kn_call fh1238 sK rfl) rfl) rfl) rfl) o1285 o1285Z o1285E o1285K o1286 o1286Z o1286E o1286K o1287 o1287Z o1287E o1287K o1288 o1288Z o1288E o1288K o1289 o1289Z o1289E o1289K o1290 o1290Z o1290E o1290K (TP_fr f1284 (fun _ => rfl) hy0) (by omega)) (fun h1296 p1297 => ?_)
                      obtain ⟨hI1298, fh1296, o1300, o1300Z, o1300E, o1300K, o1301, o1301Z, o1301E, o1301K, o1302, o1302Z, o1302E, o1302K, o1303, o1303Z, o1303E, o1303K, o1304, o1304Z, o1304E, o1304K, o1305, o1305Z, o1305E, o1305K, p1297⟩ := p1297
                      have f1299 : fr S_Mod_readLineX h h1296 := fr_call f1284 fh1296 rfl
                      have g1306 : 0 ≤ o1300Z ∧ o1300Z ≤ 160 := inv_at hI1298 o1300E o1300K.symm rfl
                      have g1307 : 0 ≤ o1301Z ∧ o1301Z ≤ 160 := inv_at hI1298 o1301E o1301K.symm rfl
                      exact V_vret rfl d_Mod_readLine_153 ⟨rfl, ⟨hI1298, f1299, o1300, o1300Z, o1300E, o1300K, o1301, o1301Z, o1301E, o1301K, o1302, o1302Z, o1302E, o1302K, o1303, o1303Z, o1303E, o1303K, o1304, o1304Z, o1304E, o1304K, o1305, o1305Z, o1305E, o1305K, ⟨Or.inl ⟨by omega, (x_line_5 rfl hH hL).trans (hq.trans (pq (by omega) (by omega)))⟩, by omega, by omega, by omega⟩⟩⟩
                    ·
                      exact absurd c1294 (by omega)
                  ·
                    obtain ⟨p12820, hl, p1282X, p1282R⟩ := p1282.1.resolve_left (fun q => absurd c1293 q.1)
                    replace p1282 := p1282.2
                    refine V_aload_n 0 d_Mod_readLine_124 rfl rfl ?_
                    refine N_getK fa_Mod_102 sk_116 rfl d_Mod_readLine_125 o1289K ?_
                    refine V_if_ne 149 o1289E d_Mod_readLine_128 (by decide) (fun c1308 => ?_) (fun c1308 => ?_)
                    ·
                      exact absurd c1308 (by omega)
                    ·
                      have g1309 := x_cS_s b (x_en b (x_en b (x_en b p0)))
                      refine V_aload_n 0 d_Mod_readLine_131 rfl rfl ?_
                      refine V_aload_n 0 d_Mod_readLine_132 rfl rfl ?_
                      refine N_getK fa_Mod_130 sk_116 rfl d_Mod_readLine_133 o1287K ?_
                      refine V_iconst 3 d_Mod_readLine_136 (by decide) ?_
                      refine V_icmp_ne 144 o1287E tc_3 d_Mod_readLine_137 (by decide) (fun c1310 => ?_) (fun c1310 => ?_)
                      ·
                        refine V_iconst 0 d_Mod_readLine_144 (by decide) ?_
                        refine V_iconst 2 d_Mod_readLine_145 (by decide) ?_
                        refine N_callVV [.int 0, .int 2] [] cv_Mod_144 sk_116 rfl d_Mod_readLine_146 rfl (Nat.le_of_ble_eq_true rfl) (by decide) (by decide) (c_Mod_needsX h1281 hI1283 0 0 tc_0 2 2 tc_2 o1286 o1286Z o1286E o1286K o1289 o1289Z o1289E o1289K o1290 o1290Z o1290E o1290K) (fun h1312 p1313 => ?_)
                        obtain ⟨hI1314, fh1312, o1316, o1316Z, o1316E, o1316K, o1317, o1317Z, o1317E, o1317K, p1313⟩ := p1313
                        have f1315 : fr S_Mod_readLineX h h1312 := fr_call f1284 fh1312 rfl
                        refine V_aload_n 0 d_Mod_readLine_149 rfl rfl ?_
                        refine N_callVV [] [] cv_Mod_152 sk_116 rfl d_Mod_readLine_150 rfl (Nat.le_of_ble_eq_true rfl) (by decide) (by decide) (c_Mod_nextX h1312 b hI1314 s sZ sE (kn_call fh1312 (kn_call fh1281 (kn_call fh1261 (kn_call fh1247 (kn_call fh1238 sK rfl) rfl) rfl) rfl) rfl) o1285 o1285Z o1285E (kn_call fh1312 o1285K rfl) o1286 o1286Z o1286E (kn_call fh1312 o1286K rfl) o1287 o1287Z o1287E (kn_call fh1312 o1287K rfl) o1288 o1288Z o1288E (kn_call fh1312 o1288K rfl) o1316 o1316Z o1316E o1316K o1317 o1317Z o1317E o1317K (TP_fr f1315 (fun _ => rfl) hy0) (by omega)) (fun h1319 p1320 => ?_)
                        obtain ⟨hI1321, fh1319, o1323, o1323Z, o1323E, o1323K, o1324, o1324Z, o1324E, o1324K, o1325, o1325Z, o1325E, o1325K, o1326, o1326Z, o1326E, o1326K, o1327, o1327Z, o1327E, o1327K, o1328, o1328Z, o1328E, o1328K, p1320⟩ := p1320
                        have f1322 : fr S_Mod_readLineX h h1319 := fr_call f1315 fh1319 rfl
                        have g1329 : 0 ≤ o1323Z ∧ o1323Z ≤ 160 := inv_at hI1321 o1323E o1323K.symm rfl
                        have g1330 : 0 ≤ o1324Z ∧ o1324Z ≤ 160 := inv_at hI1321 o1324E o1324K.symm rfl
                        exact V_vret rfl d_Mod_readLine_153 ⟨rfl, ⟨hI1321, f1322, o1323, o1323Z, o1323E, o1323K, o1324, o1324Z, o1324E, o1324K, o1325, o1325Z, o1325E, o1325K, o1326, o1326Z, o1326E, o1326K, o1327, o1327Z, o1327E, o1327K, o1328, o1328Z, o1328E, o1328K, ⟨Or.inl ⟨by omega, (x_line_5 rfl hH hL).trans (hl.trans ((x_sq_y (by omega)).trans (pq (by omega) (by omega))))⟩, by omega, by omega, by omega⟩⟩⟩
                      ·
                        refine V_iconst 1 d_Mod_readLine_140 (by decide) ?_
                        refine V_goto 145 d_Mod_readLine_141 (by decide) ?_
                        refine V_iconst 2 d_Mod_readLine_145 (by decide) ?_
                        refine N_callVV [.int 1, .int 2] [] cv_Mod_144 sk_116 rfl d_Mod_readLine_146 rfl (Nat.le_of_ble_eq_true rfl) (by decide) (by decide) (c_Mod_needsX h1281 hI1283 1 1 tc_1 2 2 tc_2 o1286 o1286Z o1286E o1286K o1289 o1289Z o1289E o1289K o1290 o1290Z o1290E o1290K) (fun h1332 p1333 => ?_)
                        obtain ⟨hI1334, fh1332, o1336, o1336Z, o1336E, o1336K, o1337, o1337Z, o1337E, o1337K, p1333⟩ := p1333
                        have f1335 : fr S_Mod_readLineX h h1332 := fr_call f1284 fh1332 rfl
                        have R1338 : RM h1332 (x_upT T 5 (x_vl b (x_en b p0))) (x_up D (80 + (x_vl b (x_en b p0))) (x_vl b (x_en b (x_en b p0)))) := RM_fr fh1332 rfl p1282R
                        have g1339 : x_fr b o1285Z = x_fr b (x_en b (x_en b (x_en b (x_en b p0)))) := congrArg (x_fr b) (by omega)
                        have g1340 : x_kd b o1285Z = x_kd b (x_en b (x_en b (x_en b (x_en b p0)))) := congrArg (x_kd b) (by omega)
                        have g1341 : x_en b o1285Z = x_en b (x_en b (x_en b (x_en b (x_en b p0)))) := congrArg (x_en b) (by omega)
                        have g1342 : x_vl b o1285Z = x_vl b (x_en b (x_en b (x_en b (x_en b p0)))) := congrArg (x_vl b) (by omega)
                        have hmo := And.intro (x_fr_ge b p0) (And.intro (x_en_ge b (x_en b p0)) (x_en_ge b (x_en b (x_en b p0))))
                        refine V_aload_n 0 d_Mod_readLine_149 rfl rfl ?_
                        refine N_callVV [] [] cv_Mod_152 sk_116 rfl d_Mod_readLine_150 rfl (Nat.le_of_ble_eq_true rfl) (by decide) (by decide) (c_Mod_nextX h1332 b hI1334 s sZ sE (kn_call fh1332 (kn_call fh1281 (kn_call fh1261 (kn_call fh1247 (kn_call fh1238 sK rfl) rfl) rfl) rfl) rfl) o1285 o1285Z o1285E (kn_call fh1332 o1285K rfl) o1286 o1286Z o1286E (kn_call fh1332 o1286K rfl) o1287 o1287Z o1287E (kn_call fh1332 o1287K rfl) o1288 o1288Z o1288E (kn_call fh1332 o1288K rfl) o1336 o1336Z o1336E o1336K o1337 o1337Z o1337E o1337K (TP_fr f1335 (fun _ => rfl) hy0) (by omega)) (fun h1344 p1345 => ?_)
                        obtain ⟨hI1346, fh1344, o1348, o1348Z, o1348E, o1348K, o1349, o1349Z, o1349E, o1349K, o1350, o1350Z, o1350E, o1350K, o1351, o1351Z, o1351E, o1351K, o1352, o1352Z, o1352E, o1352K, o1353, o1353Z, o1353E, o1353K, p1345⟩ := p1345
                        have f1347 : fr S_Mod_readLineX h h1344 := fr_call f1335 fh1344 rfl
                        have R1354 : RM h1344 (x_upT T 5 (x_vl b (x_en b p0))) (x_up D (80 + (x_vl b (x_en b p0))) (x_vl b (x_en b (x_en b p0)))) := RM_fr fh1344 rfl R1338
                        have g1355 : 0 ≤ o1348Z ∧ o1348Z ≤ 160 := inv_at hI1346 o1348E o1348K.symm rfl
                        have g1356 : 0 ≤ o1349Z ∧ o1349Z ≤ 160 := inv_at hI1346 o1349E o1349K.symm rfl
                        exact V_vret rfl d_Mod_readLine_153 ⟨rfl, ⟨hI1346, f1347, o1348, o1348Z, o1348E, o1348K, o1349, o1349Z, o1349E, o1349K, o1350, o1350Z, o1350E, o1350K, o1351, o1351Z, o1351E, o1351K, o1352, o1352Z, o1352E, o1352K, o1353, o1353Z, o1353E, o1353K, ⟨Or.inr ⟨x_en b (x_en b (x_en b (x_en b p0))), (x_line_5 rfl hH hL).trans (hl.trans (x_sq_n (by omega))), by omega, by omega, (by rw [x_T_5 T (u := x_en b p0) rfl hL, x_D_5 D (u := x_en b p0) rfl hL]; exact R1354), (if q9 : o1352Z = 0 then Or.inr ⟨q9, by omega, by omega, by omega, by omega, by omega, by omega, by omega, by omega, by omega, by omega, by omega⟩ else Or.inl ⟨by omega, by omega, by omega⟩)⟩, by omega, by omega, by omega⟩⟩⟩
                ·
                  exact absurd c1277 (by omega)
            ·
              exact absurd c1255 (by decide)
        ·
          exact absurd c1245 (by decide)
    ·
      obtain rfl : z41 = 9 := (ti_eq z41E tc_9).mpr c44
      subst c44
      have hL : x_li b p0 = 9 := by omega
      clear p43
      refine V_aload_n 0 d_Mod_readLine_18 rfl rfl ?_
      refine V_iload_n 1 d_Mod_readLine_19 rfl rfl ?_
      refine V_bipush (-4) d_Mod_readLine_20 (by decide) ?_
      refine V_icmp_eq 29 tc_9 tc_m4 d_Mod_readLine_22 (by decide) (fun c1357 => ?_) (fun c1357 => ?_)
      ·
        exact absurd c1357 (by decide)
      ·
        refine V_iconst 1 d_Mod_readLine_25 (by decide) ?_
        refine V_goto 30 d_Mod_readLine_26 (by decide) ?_
        refine V_iconst 2 d_Mod_readLine_30 (by decide) ?_
        refine N_callVV [.int 1, .int 2] [] cv_Mod_144 sk_116 rfl d_Mod_readLine_31 rfl (Nat.le_of_ble_eq_true rfl) (by decide) (by decide) (c_Mod_needsX h hI 1 1 tc_1 2 2 tc_2 g gZ gE gK w wZ wE wK a aZ aE aK) (fun h1359 p1360 => ?_)
        obtain ⟨hI1361, fh1359, o1363, o1363Z, o1363E, o1363K, o1364, o1364Z, o1364E, o1364K, p1360⟩ := p1360
        have f1362 : fr S_Mod_readLineX h h1359 := fr_call f0 fh1359 rfl
        have R1365 : RM h1359 T D := RM_fr fh1359 rfl hy3
        refine V_aload_n 0 d_Mod_readLine_34 rfl rfl ?_
        refine V_iload_n 1 d_Mod_readLine_35 rfl rfl ?_
        refine V_bipush 9 d_Mod_readLine_36 (by decide) ?_
        refine V_icmp_ne 53 tc_9 tc_9 d_Mod_readLine_38 (by decide) (fun c1366 => ?_) (fun c1366 => ?_)
        ·
          exact absurd c1366 (by decide)
        ·
          refine V_aload_n 0 d_Mod_readLine_41 rfl rfl ?_
          refine V_getR fa_Mod_17 sk_116 rfl d_Mod_readLine_42 ?_
          refine V_bipush 86 d_Mod_readLine_45 (by decide) ?_
          refine N_ialdK sk_119 tc_86 (by omega) d_Mod_readLine_47 (kn_call fh1359 mK rfl) ?_
          refine V_bipush 8 d_Mod_readLine_48 (by decide) ?_
          refine V_icmp_ge 57 mE tc_8 d_Mod_readLine_50 (by decide) (fun c1368 => ?_) (fun c1368 => ?_)
          ·
            refine V_iconst 0 d_Mod_readLine_57 (by decide) ?_
            refine V_iconst 5 d_Mod_readLine_58 (by decide) ?_
            refine N_callVV [.int 0, .int 5] [] cv_Mod_144 sk_116 rfl d_Mod_readLine_59 rfl (Nat.le_of_ble_eq_true rfl) (by decide) (by decide) (c_Mod_needsX h1359 hI1361 0 0 tc_0 5 5 tc_5 g gZ gE (kn_call fh1359 gK rfl) o1363 o1363Z o1363E o1363K o1364 o1364Z o1364E o1364K) (fun h1370 p1371 => ?_)
            obtain ⟨hI1372, fh1370, o1374, o1374Z, o1374E, o1374K, o1375, o1375Z, o1375E, o1375K, p1371⟩ := p1371
            have f1373 : fr S_Mod_readLineX h h1370 := fr_call f1362 fh1370 rfl
            refine V_aload_n 0 d_Mod_readLine_62 rfl rfl ?_
            refine N_getK fa_Mod_102 sk_116 rfl d_Mod_readLine_63 o1374K ?_
            refine V_if_ne 107 o1374E d_Mod_readLine_66 (by decide) (fun c1376 => ?_) (fun c1376 => ?_)
            ·
              have g1377 : x_fr b pZ = x_fr b (x_en b p0) := congrArg (x_fr b) (by omega)
              have g1378 : x_kd b pZ = x_kd b (x_en b p0) := congrArg (x_kd b) (by omega)
              have g1379 : x_en b pZ = x_en b (x_en b p0) := congrArg (x_en b) (by omega)
              have g1380 : x_vl b pZ = x_vl b (x_en b p0) := congrArg (x_vl b) (by omega)
              refine V_aload_n 0 d_Mod_readLine_107 rfl rfl ?_
              refine N_callVV [] [] cv_Mod_152 sk_116 rfl d_Mod_readLine_108 rfl (Nat.le_of_ble_eq_true rfl) (by decide) (by decide) (c_Mod_nextX h1370 b hI1372 s sZ sE (kn_call fh1370 (kn_call fh1359 sK rfl) rfl) p pZ pE (kn_call fh1370 (kn_call fh1359 pK rfl) rfl) g gZ gE (kn_call fh1370 (kn_call fh1359 gK rfl) rfl) k kZ kE (kn_call fh1370 (kn_call fh1359 kK rfl) rfl) v vZ vE (kn_call fh1370 (kn_call fh1359 vK rfl) rfl) o1374 o1374Z o1374E o1374K o1375 o1375Z o1375E o1375K (TP_fr f1373 (fun _ => rfl) hy0) (by omega)) (fun h1382 p1383 => ?_)
              obtain ⟨hI1384, fh1382, o1386, o1386Z, o1386E, o1386K, o1387, o1387Z, o1387E, o1387K, o1388, o1388Z, o1388E, o1388K, o1389, o1389Z, o1389E, o1389K, o1390, o1390Z, o1390E, o1390K, o1391, o1391Z, o1391E, o1391K, p1383⟩ := p1383
              have f1385 : fr S_Mod_readLineX h h1382 := fr_call f1373 fh1382 rfl
              have g1392 : 0 ≤ o1386Z ∧ o1386Z ≤ 160 := inv_at hI1384 o1386E o1386K.symm rfl
              have g1393 : 0 ≤ o1387Z ∧ o1387Z ≤ 160 := inv_at hI1384 o1387E o1387K.symm rfl
              refine V_aload_n 0 d_Mod_readLine_111 rfl rfl ?_
              refine N_getK fa_Mod_102 sk_116 rfl d_Mod_readLine_112 o1390K ?_
              refine V_if_le 119 o1390E d_Mod_readLine_115 (by decide) (fun c1394 => ?_) (fun c1394 => ?_)
              ·
                exact absurd c1394 (by omega)
              ·
                exact V_vret rfl d_Mod_readLine_118 ⟨rfl, ⟨hI1384, f1385, o1386, o1386Z, o1386E, o1386K, o1387, o1387Z, o1387E, o1387K, o1388, o1388Z, o1388E, o1388K, o1389, o1389Z, o1389E, o1389K, o1390, o1390Z, o1390E, o1390K, o1391, o1391Z, o1391E, o1391K, ⟨Or.inl ⟨by omega, (by have q := x_cH_s b T (D 86) p0; exact (x_line_H (by omega)).trans (pq (by omega) (by omega)))⟩, by omega, by omega, by omega⟩⟩⟩
            ·
              exact absurd c1376 (by omega)
          ·
            refine V_iconst 1 d_Mod_readLine_53 (by decide) ?_
            refine V_goto 58 d_Mod_readLine_54 (by decide) ?_
            refine V_iconst 5 d_Mod_readLine_58 (by decide) ?_
            refine N_callVV [.int 1, .int 5] [] cv_Mod_144 sk_116 rfl d_Mod_readLine_59 rfl (Nat.le_of_ble_eq_true rfl) (by decide) (by decide) (c_Mod_needsX h1359 hI1361 1 1 tc_1 5 5 tc_5 g gZ gE (kn_call fh1359 gK rfl) o1363 o1363Z o1363E o1363K o1364 o1364Z o1364E o1364K) (fun h1396 p1397 => ?_)
            obtain ⟨hI1398, fh1396, o1400, o1400Z, o1400E, o1400K, o1401, o1401Z, o1401E, o1401K, p1397⟩ := p1397
            have f1399 : fr S_Mod_readLineX h h1396 := fr_call f1362 fh1396 rfl
            have R1402 : RM h1396 T D := RM_fr fh1396 rfl R1365
            refine V_aload_n 0 d_Mod_readLine_62 rfl rfl ?_
            refine N_getK fa_Mod_102 sk_116 rfl d_Mod_readLine_63 o1400K ?_
            refine V_if_ne 107 o1400E d_Mod_readLine_66 (by decide) (fun c1403 => ?_) (fun c1403 => ?_)
            ·
              exact absurd c1403 (by omega)
            ·
              refine V_iload_n 1 d_Mod_readLine_69 rfl rfl ?_
              refine V_iconst 3 d_Mod_readLine_70 (by decide) ?_
              refine V_icmp_gt 107 tc_9 tc_3 d_Mod_readLine_71 (by decide) (fun c1404 => ?_) (fun c1404 => ?_)
              ·
                have g1405 : x_fr b pZ = x_fr b (x_en b p0) := congrArg (x_fr b) (by omega)
                have g1406 : x_kd b pZ = x_kd b (x_en b p0) := congrArg (x_kd b) (by omega)
                have g1407 : x_en b pZ = x_en b (x_en b p0) := congrArg (x_en b) (by omega)
                have g1408 : x_vl b pZ = x_vl b (x_en b p0) := congrArg (x_vl b) (by omega)
                refine V_aload_n 0 d_Mod_readLine_107 rfl rfl ?_
                refine N_callVV [] [] cv_Mod_152 sk_116 rfl d_Mod_readLine_108 rfl (Nat.le_of_ble_eq_true rfl) (by decide) (by decide) (c_Mod_nextX h1396 b hI1398 s sZ sE (kn_call fh1396 (kn_call fh1359 sK rfl) rfl) p pZ pE (kn_call fh1396 (kn_call fh1359 pK rfl) rfl) g gZ gE (kn_call fh1396 (kn_call fh1359 gK rfl) rfl) k kZ kE (kn_call fh1396 (kn_call fh1359 kK rfl) rfl) v vZ vE (kn_call fh1396 (kn_call fh1359 vK rfl) rfl) o1400 o1400Z o1400E o1400K o1401 o1401Z o1401E o1401K (TP_fr f1399 (fun _ => rfl) hy0) (by omega)) (fun h1410 p1411 => ?_)
                obtain ⟨hI1412, fh1410, o1414, o1414Z, o1414E, o1414K, o1415, o1415Z, o1415E, o1415K, o1416, o1416Z, o1416E, o1416K, o1417, o1417Z, o1417E, o1417K, o1418, o1418Z, o1418E, o1418K, o1419, o1419Z, o1419E, o1419K, p1411⟩ := p1411
                have f1413 : fr S_Mod_readLineX h h1410 := fr_call f1399 fh1410 rfl
                have R1420 : RM h1410 T D := RM_fr fh1410 rfl R1402
                have g1421 : 0 ≤ o1414Z ∧ o1414Z ≤ 160 := inv_at hI1412 o1414E o1414K.symm rfl
                have g1422 : 0 ≤ o1415Z ∧ o1415Z ≤ 160 := inv_at hI1412 o1415E o1415K.symm rfl
                rcases (by omega : o1418Z ≠ 0 ∨ o1418Z = 0) with c1423 | c1423
                ·
                  replace p1411 := p1411.resolve_left (fun q => by omega)
                  have hH : x_cH b T (D 86) p0 = 0 := by have q := x_cH_s b T (D 86) p0; omega
                  have g1424 := x_cN_s b (x_en b p0) 0 3
                  refine V_aload_n 0 d_Mod_readLine_111 rfl rfl ?_
                  refine N_getK fa_Mod_102 sk_116 rfl d_Mod_readLine_112 o1418K ?_
                  refine V_if_le 119 o1418E d_Mod_readLine_115 (by decide) (fun c1425 => ?_) (fun c1425 => ?_)
                  ·
                    exact absurd c1425 (by omega)
                  ·
                    exact V_vret rfl d_Mod_readLine_118 ⟨rfl, ⟨hI1412, f1413, o1414, o1414Z, o1414E, o1414K, o1415, o1415Z, o1415E, o1415K, o1416, o1416Z, o1416E, o1416K, o1417, o1417Z, o1417E, o1417K, o1418, o1418Z, o1418E, o1418K, o1419, o1419Z, o1419E, o1419K, ⟨Or.inl ⟨by omega, (x_line_9 rfl hH hL).trans ((show x_l9 b T (x_en b p0) = (x_cN b (x_en b p0) 0 3, x_fr b (x_en b p0)) from by unfold x_l9; rw [x_sq_y (c := x_cN b (x_en b p0) 0 3) (by omega)]).trans (pq (by omega) (by omega)))⟩, by omega, by omega, by omega⟩⟩⟩
                ·
                  replace p1411 := p1411.resolve_left (fun q => by omega)
                  have hH : x_cH b T (D 86) p0 = 0 := by have q := x_cH_s b T (D 86) p0; omega
                  refine V_aload_n 0 d_Mod_readLine_111 rfl rfl ?_
                  refine N_getK fa_Mod_102 sk_116 rfl d_Mod_readLine_112 o1418K ?_
                  refine V_if_le 119 o1418E d_Mod_readLine_115 (by decide) (fun c1426 => ?_) (fun c1426 => ?_)
                  ·
                    refine V_aload_n 0 d_Mod_readLine_119 rfl rfl ?_
                    refine V_iload_n 1 d_Mod_readLine_120 rfl rfl ?_
                    refine N_callVV [.int 9] [] cv_Mod_177 sk_116 rfl d_Mod_readLine_121 rfl (Nat.le_of_ble_eq_true rfl) (by decide) (by decide) (c_Mod_readLineOfX_9 h1410 b T D (x_en b p0) hI1412 s sZ sE (kn_call fh1410 (kn_call fh1396 (kn_call fh1359 sK rfl) rfl) rfl) o1414 o1414Z o1414E o1414K o1415 o1415Z o1415E o1415K o1416 o1416Z o1416E o1416K o1417 o1417Z o1417E o1417K o1418 o1418Z o1418E o1418K o1419 o1419Z o1419E o1419K m mZ mE (kn_call fh1410 (kn_call fh1396 (kn_call fh1359 mK rfl) rfl) rfl) (TP_fr f1413 (fun _ => rfl) hy0) (by omega) ⟨by omega, by omega, by omega, by omega, by omega, by omega, by omega, by omega, by omega, by omega, by omega⟩ R1420 (by omega)) (fun h1428 p1429 => ?_)
                    obtain ⟨hI1430, fh1428, o1432, o1432Z, o1432E, o1432K, o1433, o1433Z, o1433E, o1433K, o1434, o1434Z, o1434E, o1434K, o1435, o1435Z, o1435E, o1435K, o1436, o1436Z, o1436E, o1436K, o1437, o1437Z, o1437E, o1437K, p1429⟩ := p1429
                    have f1431 : fr S_Mod_readLineX h h1428 := fr_call f1413 fh1428 rfl
                    have g1438 : 0 ≤ o1432Z ∧ o1432Z ≤ 160 := inv_at hI1430 o1432E o1432K.symm rfl
                    have g1439 : 0 ≤ o1433Z ∧ o1433Z ≤ 160 := inv_at hI1430 o1433E o1433K.symm rfl
                    rcases (by omega : o1436Z ≠ 0 ∨ o1436Z = 0) with c1440 | c1440
                    ·
                      obtain ⟨hq0, hq⟩ := p1429.1.resolve_right (fun q => absurd q.1 c1440)
                      replace p1429 := p1429.2
                      refine V_aload_n 0 d_Mod_readLine_124 rfl rfl ?_
                      refine N_getK fa_Mod_102 sk_116 rfl d_Mod_readLine_125 o1436K ?_
                      refine V_if_ne 149 o1436E d_Mod_readLine_128 (by decide) (fun c1441 => ?_) (fun c1441 => ?_)
                      ·
                        refine V_aload_n 0 d_Mod_readLine_149 rfl rfl ?_
                        refine N_callVV [] [] cv_Mod_152 sk_116 rfl d_Mod_readLine_150 rfl (Nat.le_of_ble_eq_true rfl) (by decide) (by decide) (c_Mod_nextX h1428 b hI1430 s sZ sE (kn_call fh1428 (kn_call fh1410 (kn_call fh1396 (kn_call fh1359 sK rfl) rfl) rfl) rfl) o1432 o1432Z o1432E o1432K o1433 o1433Z o1433E o1433K o1434 o1434Z o1434E o1434K o1435 o1435Z o1435E o1435K o1436 o1436Z o1436E o1436K o1437 o1437Z o1437E o1437K (TP_fr f1431 (fun _ => rfl) hy0) (by omega)) (fun h1443 p1444 => ?_)
                        obtain ⟨hI1445, fh1443, o1447, o1447Z, o1447E, o1447K, o1448, o1448Z, o1448E, o1448K, o1449, o1449Z, o1449E, o1449K, o1450, o1450Z, o1450E, o1450K, o1451, o1451Z, o1451E, o1451K, o1452, o1452Z, o1452E, o1452K, p1444⟩ := p1444
                        have f1446 : fr S_Mod_readLineX h h1443 := fr_call f1431 fh1443 rfl
                        have g1453 : 0 ≤ o1447Z ∧ o1447Z ≤ 160 := inv_at hI1445 o1447E o1447K.symm rfl
                        have g1454 : 0 ≤ o1448Z ∧ o1448Z ≤ 160 := inv_at hI1445 o1448E o1448K.symm rfl
                        exact V_vret rfl d_Mod_readLine_153 ⟨rfl, ⟨hI1445, f1446, o1447, o1447Z, o1447E, o1447K, o1448, o1448Z, o1448E, o1448K, o1449, o1449Z, o1449E, o1449K, o1450, o1450Z, o1450E, o1450K, o1451, o1451Z, o1451E, o1451K, o1452, o1452Z, o1452E, o1452K, ⟨Or.inl ⟨by omega, (x_line_9 rfl hH hL).trans (hq.trans (pq (by omega) (by omega)))⟩, by omega, by omega, by omega⟩⟩⟩
                      ·
                        exact absurd c1441 (by omega)
                    ·
                      obtain ⟨p14290, hl, p1429X, p1429R⟩ := p1429.1.resolve_left (fun q => absurd c1440 q.1)
                      replace p1429 := p1429.2
                      refine V_aload_n 0 d_Mod_readLine_124 rfl rfl ?_
                      refine N_getK fa_Mod_102 sk_116 rfl d_Mod_readLine_125 o1436K ?_
                      refine V_if_ne 149 o1436E d_Mod_readLine_128 (by decide) (fun c1455 => ?_) (fun c1455 => ?_)
                      ·
                        exact absurd c1455 (by omega)
                      ·
                        have g1456 := x_cS_s b (x_en b (x_en b (x_en b (x_en b p0))))
                        refine V_aload_n 0 d_Mod_readLine_131 rfl rfl ?_
                        refine V_aload_n 0 d_Mod_readLine_132 rfl rfl ?_
                        refine N_getK fa_Mod_130 sk_116 rfl d_Mod_readLine_133 o1434K ?_
                        refine V_iconst 3 d_Mod_readLine_136 (by decide) ?_
                        refine V_icmp_ne 144 o1434E tc_3 d_Mod_readLine_137 (by decide) (fun c1457 => ?_) (fun c1457 => ?_)
                        ·
                          refine V_iconst 0 d_Mod_readLine_144 (by decide) ?_
                          refine V_iconst 2 d_Mod_readLine_145 (by decide) ?_
                          refine N_callVV [.int 0, .int 2] [] cv_Mod_144 sk_116 rfl d_Mod_readLine_146 rfl (Nat.le_of_ble_eq_true rfl) (by decide) (by decide) (c_Mod_needsX h1428 hI1430 0 0 tc_0 2 2 tc_2 o1433 o1433Z o1433E o1433K o1436 o1436Z o1436E o1436K o1437 o1437Z o1437E o1437K) (fun h1459 p1460 => ?_)
                          obtain ⟨hI1461, fh1459, o1463, o1463Z, o1463E, o1463K, o1464, o1464Z, o1464E, o1464K, p1460⟩ := p1460
                          have f1462 : fr S_Mod_readLineX h h1459 := fr_call f1431 fh1459 rfl
                          refine V_aload_n 0 d_Mod_readLine_149 rfl rfl ?_
                          refine N_callVV [] [] cv_Mod_152 sk_116 rfl d_Mod_readLine_150 rfl (Nat.le_of_ble_eq_true rfl) (by decide) (by decide) (c_Mod_nextX h1459 b hI1461 s sZ sE (kn_call fh1459 (kn_call fh1428 (kn_call fh1410 (kn_call fh1396 (kn_call fh1359 sK rfl) rfl) rfl) rfl) rfl) o1432 o1432Z o1432E (kn_call fh1459 o1432K rfl) o1433 o1433Z o1433E (kn_call fh1459 o1433K rfl) o1434 o1434Z o1434E (kn_call fh1459 o1434K rfl) o1435 o1435Z o1435E (kn_call fh1459 o1435K rfl) o1463 o1463Z o1463E o1463K o1464 o1464Z o1464E o1464K (TP_fr f1462 (fun _ => rfl) hy0) (by omega)) (fun h1466 p1467 => ?_)
                          obtain ⟨hI1468, fh1466, o1470, o1470Z, o1470E, o1470K, o1471, o1471Z, o1471E, o1471K, o1472, o1472Z, o1472E, o1472K, o1473, o1473Z, o1473E, o1473K, o1474, o1474Z, o1474E, o1474K, o1475, o1475Z, o1475E, o1475K, p1467⟩ := p1467
                          have f1469 : fr S_Mod_readLineX h h1466 := fr_call f1462 fh1466 rfl
                          have g1476 : 0 ≤ o1470Z ∧ o1470Z ≤ 160 := inv_at hI1468 o1470E o1470K.symm rfl
                          have g1477 : 0 ≤ o1471Z ∧ o1471Z ≤ 160 := inv_at hI1468 o1471E o1471K.symm rfl
                          exact V_vret rfl d_Mod_readLine_153 ⟨rfl, ⟨hI1468, f1469, o1470, o1470Z, o1470E, o1470K, o1471, o1471Z, o1471E, o1471K, o1472, o1472Z, o1472E, o1472K, o1473, o1473Z, o1473E, o1473K, o1474, o1474Z, o1474E, o1474K, o1475, o1475Z, o1475E, o1475K, ⟨Or.inl ⟨by omega, (x_line_9 rfl hH hL).trans (hl.trans ((x_sq_y (by omega)).trans (pq (by omega) (by omega))))⟩, by omega, by omega, by omega⟩⟩⟩
                        ·
                          refine V_iconst 1 d_Mod_readLine_140 (by decide) ?_
                          refine V_goto 145 d_Mod_readLine_141 (by decide) ?_
                          refine V_iconst 2 d_Mod_readLine_145 (by decide) ?_
                          refine N_callVV [.int 1, .int 2] [] cv_Mod_144 sk_116 rfl d_Mod_readLine_146 rfl (Nat.le_of_ble_eq_true rfl) (by decide) (by decide) (c_Mod_needsX h1428 hI1430 1 1 tc_1 2 2 tc_2 o1433 o1433Z o1433E o1433K o1436 o1436Z o1436E o1436K o1437 o1437Z o1437E o1437K) (fun h1479 p1480 => ?_)
                          obtain ⟨hI1481, fh1479, o1483, o1483Z, o1483E, o1483K, o1484, o1484Z, o1484E, o1484K, p1480⟩ := p1480
                          have f1482 : fr S_Mod_readLineX h h1479 := fr_call f1431 fh1479 rfl
                          have R1485 : RM h1479 T (x_up (x_up (x_up (x_up D (87 + 3 * D 86) (x_vl b (x_en b p0))) (88 + 3 * D 86) (x_vl b (x_en b (x_en b p0)))) (89 + 3 * D 86) (x_vl b (x_en b (x_en b (x_en b p0))))) 86 (D 86 + 1)) := RM_fr fh1479 rfl p1429R
                          have g1486 : x_fr b o1432Z = x_fr b (x_en b (x_en b (x_en b (x_en b (x_en b p0))))) := congrArg (x_fr b) (by omega)
                          have g1487 : x_kd b o1432Z = x_kd b (x_en b (x_en b (x_en b (x_en b (x_en b p0))))) := congrArg (x_kd b) (by omega)
                          have g1488 : x_en b o1432Z = x_en b (x_en b (x_en b (x_en b (x_en b (x_en b p0))))) := congrArg (x_en b) (by omega)
                          have g1489 : x_vl b o1432Z = x_vl b (x_en b (x_en b (x_en b (x_en b (x_en b p0))))) := congrArg (x_vl b) (by omega)
                          have hmo := And.intro (x_fr_ge b p0) (And.intro (x_en_ge b (x_en b p0)) (And.intro (x_en_ge b (x_en b (x_en b p0))) (x_en_ge b (x_en b (x_en b (x_en b p0))))))
                          refine V_aload_n 0 d_Mod_readLine_149 rfl rfl ?_
                          refine N_callVV [] [] cv_Mod_152 sk_116 rfl d_Mod_readLine_150 rfl (Nat.le_of_ble_eq_true rfl) (by decide) (by decide) (c_Mod_nextX h1479 b hI1481 s sZ sE (kn_call fh1479 (kn_call fh1428 (kn_call fh1410 (kn_call fh1396 (kn_call fh1359 sK rfl) rfl) rfl) rfl) rfl) o1432 o1432Z o1432E (kn_call fh1479 o1432K rfl) o1433 o1433Z o1433E (kn_call fh1479 o1433K rfl) o1434 o1434Z o1434E (kn_call fh1479 o1434K rfl) o1435 o1435Z o1435E (kn_call fh1479 o1435K rfl) o1483 o1483Z o1483E o1483K o1484 o1484Z o1484E o1484K (TP_fr f1482 (fun _ => rfl) hy0) (by omega)) (fun h1491 p1492 => ?_)
                          obtain ⟨hI1493, fh1491, o1495, o1495Z, o1495E, o1495K, o1496, o1496Z, o1496E, o1496K, o1497, o1497Z, o1497E, o1497K, o1498, o1498Z, o1498E, o1498K, o1499, o1499Z, o1499E, o1499K, o1500, o1500Z, o1500E, o1500K, p1492⟩ := p1492
                          have f1494 : fr S_Mod_readLineX h h1491 := fr_call f1482 fh1491 rfl
                          have R1501 : RM h1491 T (x_up (x_up (x_up (x_up D (87 + 3 * D 86) (x_vl b (x_en b p0))) (88 + 3 * D 86) (x_vl b (x_en b (x_en b p0)))) (89 + 3 * D 86) (x_vl b (x_en b (x_en b (x_en b p0))))) 86 (D 86 + 1)) := RM_fr fh1491 rfl R1485
                          have g1502 : 0 ≤ o1495Z ∧ o1495Z ≤ 160 := inv_at hI1493 o1495E o1495K.symm rfl
                          have g1503 : 0 ≤ o1496Z ∧ o1496Z ≤ 160 := inv_at hI1493 o1496E o1496K.symm rfl
                          exact V_vret rfl d_Mod_readLine_153 ⟨rfl, ⟨hI1493, f1494, o1495, o1495Z, o1495E, o1495K, o1496, o1496Z, o1496E, o1496K, o1497, o1497Z, o1497E, o1497K, o1498, o1498Z, o1498E, o1498K, o1499, o1499Z, o1499E, o1499K, o1500, o1500Z, o1500E, o1500K, ⟨Or.inr ⟨x_en b (x_en b (x_en b (x_en b (x_en b p0)))), (x_line_9 rfl hH hL).trans (hl.trans (x_sq_n (by omega))), by omega, by omega, (by rw [x_T_9 T (u := x_en b p0) rfl hL, x_D_9 D (u := x_en b p0) rfl hL]; exact (RM_nine R1501)), (if q9 : o1499Z = 0 then Or.inr ⟨q9, by omega, by omega, by omega, by omega, by omega, by omega, by omega, by omega, by omega, by omega, by omega⟩ else Or.inl ⟨by omega, by omega, by omega⟩)⟩, by omega, by omega, by omega⟩⟩⟩
                  ·
                    exact absurd c1426 (by omega)
              ·
                exact absurd c1404 (by decide)
