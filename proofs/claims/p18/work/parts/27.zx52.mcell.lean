def S_Mod_readCellOfX_4 : List (Nat × Option Nat) := [(116, some 16), (116, some 17), (116, some 18), (116, some 19), (116, some 20), (116, some 21), (119, none), (120, some 0), (116, some 13)]
abbrev q_Mod_readCellOfX_4 (h : Hp) (b : Int → Int) (T : Nat → Int → Int) (D : Nat → Int) (p0 : Int) (s : Int32) (sZ : Int) (p : Int32) (pZ : Int) (g : Int32) (gZ : Int) (k : Int32) (kZ : Int) (v : Int32) (vZ : Int) (w : Int32) (wZ : Int) (a : Int32) (aZ : Int) (z : Int32) (zZ : Int) (i : Int32) (iZ : Int) : Option Value → Hp → Prop := pVd (fun h' => Inv h' ∧ fr S_Mod_readCellOfX_4 h h' ∧ ∃ (q : Int32) (qZ : Int), q.toInt = qZ ∧ h'.1 116 16 = q ∧ ∃ (f : Int32) (fZ : Int), f.toInt = fZ ∧ h'.1 116 17 = f ∧ ∃ (m : Int32) (mZ : Int), m.toInt = mZ ∧ h'.1 116 18 = m ∧ ∃ (x : Int32) (xZ : Int), x.toInt = xZ ∧ h'.1 116 19 = x ∧ ∃ (u : Int32) (uZ : Int), u.toInt = uZ ∧ h'.1 116 20 = u ∧ ∃ (y : Int32) (yZ : Int), y.toInt = yZ ∧ h'.1 116 21 = y ∧ ((uZ ≠ 0 ∧ x_l1 b T p0 = (uZ, yZ) ∨ uZ = 0 ∧ x_l1 b T p0 = x_sq (x_cS b (x_en b (x_en b p0))) (x_fr b (x_en b (x_en b p0))) (0, x_en b (x_en b (x_en b p0))) ∧ (fZ = x_fr b (x_en b (x_en b p0)) ∧ mZ = x_kd b (x_en b (x_en b p0)) ∧ mZ ≠ 4 ∧ 0 ≤ mZ ∧ mZ ≤ 3 ∧ qZ = x_en b (x_en b (x_en b p0)) ∧ (mZ ≠ 2 ∨ xZ = x_vl b (x_en b (x_en b p0)) ∧ 0 ≤ xZ ∧ xZ ≤ 99) ∧ (x_en b (x_en b p0)) ≤ fZ ∧ fZ ≤ qZ ∧ qZ ≤ sZ ∧ (mZ = 0 ∨ fZ < qZ)) ∧ RM h' (x_upT T 1 (x_vl b p0)) (x_up D (x_vl b p0) (x_vl b (x_en b p0)))) ∧ 0 ≤ qZ ∧ qZ ≤ sZ ∧ 0 ≤ uZ))
set_option maxRecDepth 100000 in
theorem c_Mod_readCellOfX_4 (h : Hp) (b : Int → Int) (T : Nat → Int → Int) (D : Nat → Int) (p0 : Int) (hI : Inv h) (s : Int32) (sZ : Int) (sE : s.toInt = sZ) (sK : h.1 116 15 = s) (p : Int32) (pZ : Int) (pE : p.toInt = pZ) (pK : h.1 116 16 = p) (g : Int32) (gZ : Int) (gE : g.toInt = gZ) (gK : h.1 116 17 = g) (k : Int32) (kZ : Int) (kE : k.toInt = kZ) (kK : h.1 116 18 = k) (v : Int32) (vZ : Int) (vE : v.toInt = vZ) (vK : h.1 116 19 = v) (w : Int32) (wZ : Int) (wE : w.toInt = wZ) (wK : h.1 116 20 = w) (a : Int32) (aZ : Int) (aE : a.toInt = aZ) (aK : h.1 116 21 = a) (z : Int32) (zZ : Int) (zE : z.toInt = zZ) (zK : h.1 120 0 = z) (i : Int32) (iZ : Int) (iE : i.toInt = iZ) (iK : h.1 116 13 = i) (hy0 : TP h 121 sZ b) (hy1 : 0 ≤ pZ ∧ pZ ≤ sZ ∧ wZ = 0) (hy2 : gZ = x_fr b p0 ∧ kZ = x_kd b p0 ∧ kZ ≠ 4 ∧ 0 ≤ kZ ∧ kZ ≤ 3 ∧ pZ = x_en b p0 ∧ (kZ ≠ 2 ∨ vZ = x_vl b p0 ∧ 0 ≤ vZ ∧ vZ ≤ 99) ∧ p0 ≤ gZ ∧ gZ ≤ pZ ∧ pZ ≤ sZ ∧ (kZ = 0 ∨ gZ < pZ)) (hy3 : RM h T D) : Ct y_Mod_readCellOf b_Mod_readCellOf 5 none 3 70 [.ref 116, .int 4] h (q_Mod_readCellOfX_4 h b T D p0 s sZ p pZ g gZ k kZ v vZ w wZ a aZ z zZ i iZ) := by
  refine ct_ow R_Mod [some (.ref 116), some (.int 4), none, none, none] rfl (by decide) rfl (Nat.le_of_ble_eq_true rfl) ?_
  have f0 : fr S_Mod_readCellOfX_4 h h := fr_rf
  have g1 : 0 ≤ sZ ∧ sZ ≤ 160 := inv_at hI sE sK.symm rfl
  have g2 : 0 ≤ pZ ∧ pZ ≤ 160 := inv_at hI pE pK.symm rfl
  have g3 : 0 ≤ gZ ∧ gZ ≤ 160 := inv_at hI gE gK.symm rfl
  refine V_aload_n 0 d_Mod_readCellOf_0 rfl rfl ?_
  refine V_iload_n 1 d_Mod_readCellOf_1 rfl rfl ?_
  refine V_bipush 15 d_Mod_readCellOf_2 (by decide) ?_
  refine N_callVI [.int 4, .int 15] [] cv_Mod_161 sk_116 rfl d_Mod_readCellOf_4 rfl (Nat.le_of_ble_eq_true rfl) (by decide) (by decide) (c_Mod_readFreshX_4 h b T D p0 hI s sZ sE sK p pZ pE pK g gZ gE gK k kZ kE kK v vZ vE vK w wZ wE wK a aZ aE aK z zZ zE zK i iZ iE iK (TP_fr f0 (fun _ => rfl) hy0) (by omega) ⟨by omega, by omega, by omega, by omega, by omega, by omega, by omega, by omega, by omega, by omega, by omega⟩ hy3) (fun z4 h5 z4Z z4E p6 => ?_)
  obtain ⟨hI7, fh5, o9, o9Z, o9E, o9K, o10, o10Z, o10E, o10K, o11, o11Z, o11E, o11K, o12, o12Z, o12E, o12K, o13, o13Z, o13E, o13K, o14, o14Z, o14E, o14K, p6⟩ := p6
  have f8 : fr S_Mod_readCellOfX_4 h h5 := fr_call f0 fh5 rfl
  have g15 : 0 ≤ o9Z ∧ o9Z ≤ 160 := inv_at hI7 o9E o9K.symm rfl
  have g16 : 0 ≤ o10Z ∧ o10Z ≤ 160 := inv_at hI7 o10E o10K.symm rfl
  refine V_istore_n 2 [some (.ref 116), some (.int 4), some (.int z4), none, none] d_Mod_readCellOf_7 rfl (by decide) rfl rfl ?_
  rcases (by omega : o13Z ≠ 0 ∧ x_cN b p0 0 15 ≠ 0 ∨ o13Z ≠ 0 ∧ x_cN b p0 0 15 = 0 ∧ x_c4 (T 1 (x_vl b p0)) ≠ 0 ∨ o13Z ≠ 0 ∧ x_cN b p0 0 15 = 0 ∧ x_c4 (T 1 (x_vl b p0)) = 0 ∨ o13Z = 0) with c17 | c17 | c17 | c17
  ·
    have g18 := x_cN_s b p0 0 15
    have g19 := x_c4_s (T 1 (x_vl b p0))
    have g20 := x_cN_s b (x_en b p0) 1 9
    replace p6 := And.intro (p6.1.resolve_right (fun q => by omega)) p6.2
    refine V_iload_n 1 d_Mod_readCellOf_8 rfl rfl ?_
    refine V_iconst 5 d_Mod_readCellOf_9 (by decide) ?_
    refine V_icmp_ne 43 tc_4 tc_5 d_Mod_readCellOf_10 (by decide) (fun c21 => ?_) (fun c21 => ?_)
    ·
      refine V_aload_n 0 d_Mod_readCellOf_43 rfl rfl ?_
      refine V_iload_n 1 d_Mod_readCellOf_44 rfl rfl ?_
      refine V_iconst 4 d_Mod_readCellOf_45 (by decide) ?_
      refine V_icmp_ne 53 tc_4 tc_4 d_Mod_readCellOf_46 (by decide) (fun c22 => ?_) (fun c22 => ?_)
      ·
        exact absurd c22 (by decide)
      ·
        refine V_iconst 1 d_Mod_readCellOf_49 (by decide) ?_
        refine V_goto 54 d_Mod_readCellOf_50 (by decide) ?_
        refine V_iload_n 1 d_Mod_readCellOf_54 rfl rfl ?_
        refine V_iconst 4 d_Mod_readCellOf_55 (by decide) ?_
        refine V_icmp_ne 64 tc_4 tc_4 d_Mod_readCellOf_56 (by decide) (fun c23 => ?_) (fun c23 => ?_)
        ·
          exact absurd c23 (by decide)
        ·
          refine V_bipush 9 d_Mod_readCellOf_59 (by decide) ?_
          refine V_goto 76 d_Mod_readCellOf_61 (by decide) ?_
          refine N_callVI [.int 1, .int 9] [] cv_Mod_158 sk_116 rfl d_Mod_readCellOf_76 rfl (Nat.le_of_ble_eq_true rfl) (by decide) (by decide) (c_Mod_readNumberX h5 b (x_en b p0) hI7 1 1 tc_1 9 9 tc_9 s sZ sE (kn_call fh5 sK rfl) o9 o9Z o9E o9K o10 o10Z o10E o10K o11 o11Z o11E o11K o12 o12Z o12E o12K o13 o13Z o13E o13K o14 o14Z o14E o14K (TP_fr f8 (fun _ => rfl) hy0) (by omega) (Or.inl (by omega))) (fun z24 h25 z24Z z24E p26 => ?_)
          obtain ⟨hI27, fh25, o29, o29Z, o29E, o29K, o30, o30Z, o30E, o30K, o31, o31Z, o31E, o31K, o32, o32Z, o32E, o32K, o33, o33Z, o33E, o33K, o34, o34Z, o34E, o34K, p26⟩ := p26
          have f28 : fr S_Mod_readCellOfX_4 h h25 := fr_call f8 fh25 rfl
          have g35 : 0 ≤ o29Z ∧ o29Z ≤ 160 := inv_at hI27 o29E o29K.symm rfl
          have g36 : 0 ≤ o30Z ∧ o30Z ≤ 160 := inv_at hI27 o30E o30K.symm rfl
          have g37 := x_cS_s b (x_en b (x_en b p0))
          refine V_istore_n 3 [some (.ref 116), some (.int 4), some (.int z4), some (.int z24), none] d_Mod_readCellOf_79 rfl (by decide) rfl rfl ?_
          refine V_iload_n 1 d_Mod_readCellOf_80 rfl rfl ?_
          refine V_iconst 4 d_Mod_readCellOf_81 (by decide) ?_
          refine V_icmp_ne 89 tc_4 tc_4 d_Mod_readCellOf_82 (by decide) (fun c38 => ?_) (fun c38 => ?_)
          ·
            exact absurd c38 (by decide)
          ·
            refine V_iconst 0 d_Mod_readCellOf_85 (by decide) ?_
            refine V_goto 102 d_Mod_readCellOf_86 (by decide) ?_
            refine V_istore 4 [some (.ref 116), some (.int 4), some (.int z4), some (.int z24), some (.int 0)] d_Mod_readCellOf_102 (by decide) rfl rfl ?_
            refine V_aload_n 0 d_Mod_readCellOf_104 rfl rfl ?_
            refine V_getR fa_Mod_17 sk_116 rfl d_Mod_readCellOf_105 ?_
            refine V_iload d_Mod_readCellOf_108 rfl ?_
            refine V_iload_n 2 d_Mod_readCellOf_110 rfl rfl ?_
            refine V_iadd tc_0 z4E (by omega) d_Mod_readCellOf_111 (fun z39 z39e z39E => ?_)
            refine V_aload_n 0 d_Mod_readCellOf_112 rfl rfl ?_
            refine N_getK fa_Mod_102 sk_116 rfl d_Mod_readCellOf_113 o33K ?_
            refine V_if_ne 123 o33E d_Mod_readCellOf_116 (by decide) (fun c40 => ?_) (fun c40 => ?_)
            ·
              refine V_aload_n 0 d_Mod_readCellOf_123 rfl rfl ?_
              refine V_getR fa_Mod_17 sk_116 rfl d_Mod_readCellOf_124 ?_
              refine V_iload d_Mod_readCellOf_127 rfl ?_
              refine V_iload_n 2 d_Mod_readCellOf_129 rfl rfl ?_
              refine V_iadd tc_0 z4E (by omega) d_Mod_readCellOf_130 (fun z41 z41e z41E => ?_)
              refine N_iald sk_119 z41E (by omega) d_Mod_readCellOf_131 (fun z42 z42Z z42E z42e => ?_)
              refine N_iast sk_119 z39E (by omega) d_Mod_readCellOf_132 (fun h43 eh43 => ?_)
              have hI44 : Inv h43 := inv_full hI27 eh43 (st_lo (by omega))
              have f45 : fr S_Mod_readCellOfX_4 h h43 := fr_put f28 eh43 rfl
              exact V_vret rfl d_Mod_readCellOf_133 ⟨rfl, ⟨hI44, f45, o29, o29Z, o29E, (kn_ne eh43 o29K (by decide)), o30, o30Z, o30E, (kn_ne eh43 o30K (by decide)), o31, o31Z, o31E, (kn_ne eh43 o31K (by decide)), o32, o32Z, o32E, (kn_ne eh43 o32K (by decide)), o33, o33Z, o33E, (kn_ne eh43 o33K (by decide)), o34, o34Z, o34E, (kn_ne eh43 o34K (by decide)), ⟨Or.inl ⟨by omega, (show x_l1 b T p0 = (x_cN b p0 0 15, x_fr b p0) from by unfold x_l1; rw [x_sq_y (c := x_cN b p0 0 15) (by omega)]).trans (pq (by omega) (by omega))⟩, by omega, by omega, by omega⟩⟩⟩
            ·
              exact absurd c40 (by omega)
    ·
      exact absurd c21 (by decide)
  ·
    have g46 := x_cN_s b p0 0 15
    have g47 := x_c4_s (T 1 (x_vl b p0))
    have g48 := x_cN_s b (x_en b p0) 1 9
    replace p6 := And.intro ((p6.1.resolve_left (fun q => by omega)).resolve_right (fun q => by omega)) p6.2
    refine V_iload_n 1 d_Mod_readCellOf_8 rfl rfl ?_
    refine V_iconst 5 d_Mod_readCellOf_9 (by decide) ?_
    refine V_icmp_ne 43 tc_4 tc_5 d_Mod_readCellOf_10 (by decide) (fun c49 => ?_) (fun c49 => ?_)
    ·
      refine V_aload_n 0 d_Mod_readCellOf_43 rfl rfl ?_
      refine V_iload_n 1 d_Mod_readCellOf_44 rfl rfl ?_
      refine V_iconst 4 d_Mod_readCellOf_45 (by decide) ?_
      refine V_icmp_ne 53 tc_4 tc_4 d_Mod_readCellOf_46 (by decide) (fun c50 => ?_) (fun c50 => ?_)
      ·
        exact absurd c50 (by decide)
      ·
        refine V_iconst 1 d_Mod_readCellOf_49 (by decide) ?_
        refine V_goto 54 d_Mod_readCellOf_50 (by decide) ?_
        refine V_iload_n 1 d_Mod_readCellOf_54 rfl rfl ?_
        refine V_iconst 4 d_Mod_readCellOf_55 (by decide) ?_
        refine V_icmp_ne 64 tc_4 tc_4 d_Mod_readCellOf_56 (by decide) (fun c51 => ?_) (fun c51 => ?_)
        ·
          exact absurd c51 (by decide)
        ·
          refine V_bipush 9 d_Mod_readCellOf_59 (by decide) ?_
          refine V_goto 76 d_Mod_readCellOf_61 (by decide) ?_
          refine N_callVI [.int 1, .int 9] [] cv_Mod_158 sk_116 rfl d_Mod_readCellOf_76 rfl (Nat.le_of_ble_eq_true rfl) (by decide) (by decide) (c_Mod_readNumberX h5 b (x_en b p0) hI7 1 1 tc_1 9 9 tc_9 s sZ sE (kn_call fh5 sK rfl) o9 o9Z o9E o9K o10 o10Z o10E o10K o11 o11Z o11E o11K o12 o12Z o12E o12K o13 o13Z o13E o13K o14 o14Z o14E o14K (TP_fr f8 (fun _ => rfl) hy0) (by omega) (Or.inl (by omega))) (fun z52 h53 z52Z z52E p54 => ?_)
          obtain ⟨hI55, fh53, o57, o57Z, o57E, o57K, o58, o58Z, o58E, o58K, o59, o59Z, o59E, o59K, o60, o60Z, o60E, o60K, o61, o61Z, o61E, o61K, o62, o62Z, o62E, o62K, p54⟩ := p54
          have f56 : fr S_Mod_readCellOfX_4 h h53 := fr_call f8 fh53 rfl
          have g63 : 0 ≤ o57Z ∧ o57Z ≤ 160 := inv_at hI55 o57E o57K.symm rfl
          have g64 : 0 ≤ o58Z ∧ o58Z ≤ 160 := inv_at hI55 o58E o58K.symm rfl
          have g65 := x_cS_s b (x_en b (x_en b p0))
          refine V_istore_n 3 [some (.ref 116), some (.int 4), some (.int z4), some (.int z52), none] d_Mod_readCellOf_79 rfl (by decide) rfl rfl ?_
          refine V_iload_n 1 d_Mod_readCellOf_80 rfl rfl ?_
          refine V_iconst 4 d_Mod_readCellOf_81 (by decide) ?_
          refine V_icmp_ne 89 tc_4 tc_4 d_Mod_readCellOf_82 (by decide) (fun c66 => ?_) (fun c66 => ?_)
          ·
            exact absurd c66 (by decide)
          ·
            refine V_iconst 0 d_Mod_readCellOf_85 (by decide) ?_
            refine V_goto 102 d_Mod_readCellOf_86 (by decide) ?_
            refine V_istore 4 [some (.ref 116), some (.int 4), some (.int z4), some (.int z52), some (.int 0)] d_Mod_readCellOf_102 (by decide) rfl rfl ?_
            refine V_aload_n 0 d_Mod_readCellOf_104 rfl rfl ?_
            refine V_getR fa_Mod_17 sk_116 rfl d_Mod_readCellOf_105 ?_
            refine V_iload d_Mod_readCellOf_108 rfl ?_
            refine V_iload_n 2 d_Mod_readCellOf_110 rfl rfl ?_
            refine V_iadd tc_0 z4E (by omega) d_Mod_readCellOf_111 (fun z67 z67e z67E => ?_)
            refine V_aload_n 0 d_Mod_readCellOf_112 rfl rfl ?_
            refine N_getK fa_Mod_102 sk_116 rfl d_Mod_readCellOf_113 o61K ?_
            refine V_if_ne 123 o61E d_Mod_readCellOf_116 (by decide) (fun c68 => ?_) (fun c68 => ?_)
            ·
              refine V_aload_n 0 d_Mod_readCellOf_123 rfl rfl ?_
              refine V_getR fa_Mod_17 sk_116 rfl d_Mod_readCellOf_124 ?_
              refine V_iload d_Mod_readCellOf_127 rfl ?_
              refine V_iload_n 2 d_Mod_readCellOf_129 rfl rfl ?_
              refine V_iadd tc_0 z4E (by omega) d_Mod_readCellOf_130 (fun z69 z69e z69E => ?_)
              refine N_iald sk_119 z69E (by omega) d_Mod_readCellOf_131 (fun z70 z70Z z70E z70e => ?_)
              refine N_iast sk_119 z67E (by omega) d_Mod_readCellOf_132 (fun h71 eh71 => ?_)
              have hI72 : Inv h71 := inv_full hI55 eh71 (st_lo (by omega))
              have f73 : fr S_Mod_readCellOfX_4 h h71 := fr_put f56 eh71 rfl
              exact V_vret rfl d_Mod_readCellOf_133 ⟨rfl, ⟨hI72, f73, o57, o57Z, o57E, (kn_ne eh71 o57K (by decide)), o58, o58Z, o58E, (kn_ne eh71 o58K (by decide)), o59, o59Z, o59E, (kn_ne eh71 o59K (by decide)), o60, o60Z, o60E, (kn_ne eh71 o60K (by decide)), o61, o61Z, o61E, (kn_ne eh71 o61K (by decide)), o62, o62Z, o62E, (kn_ne eh71 o62K (by decide)), ⟨Or.inl ⟨by omega, (show x_l1 b T p0 = (x_c4 (T 1 (x_vl b p0)), x_fr b p0) from by unfold x_l1; rw [x_sq_n (c := x_cN b p0 0 15) (by omega), x_sq_y (c := x_c4 (T 1 (x_vl b p0))) (by omega)]).trans (pq (by omega) (by omega))⟩, by omega, by omega, by omega⟩⟩⟩
            ·
              exact absurd c68 (by omega)
    ·
      exact absurd c49 (by decide)
  ·
    have g74 := x_cN_s b p0 0 15
    have g75 := x_c4_s (T 1 (x_vl b p0))
    have g76 := x_cN_s b (x_en b p0) 1 9
    replace p6 := And.intro (((p6.1.resolve_left (fun q => by omega)).resolve_left (fun q => by omega)).2.2.2.1.resolve_right (fun q => by omega)) p6.2
    refine V_iload_n 1 d_Mod_readCellOf_8 rfl rfl ?_
    refine V_iconst 5 d_Mod_readCellOf_9 (by decide) ?_
    refine V_icmp_ne 43 tc_4 tc_5 d_Mod_readCellOf_10 (by decide) (fun c77 => ?_) (fun c77 => ?_)
    ·
      refine V_aload_n 0 d_Mod_readCellOf_43 rfl rfl ?_
      refine V_iload_n 1 d_Mod_readCellOf_44 rfl rfl ?_
      refine V_iconst 4 d_Mod_readCellOf_45 (by decide) ?_
      refine V_icmp_ne 53 tc_4 tc_4 d_Mod_readCellOf_46 (by decide) (fun c78 => ?_) (fun c78 => ?_)
      ·
        exact absurd c78 (by decide)
      ·
        refine V_iconst 1 d_Mod_readCellOf_49 (by decide) ?_
        refine V_goto 54 d_Mod_readCellOf_50 (by decide) ?_
        refine V_iload_n 1 d_Mod_readCellOf_54 rfl rfl ?_
        refine V_iconst 4 d_Mod_readCellOf_55 (by decide) ?_
        refine V_icmp_ne 64 tc_4 tc_4 d_Mod_readCellOf_56 (by decide) (fun c79 => ?_) (fun c79 => ?_)
        ·
          exact absurd c79 (by decide)
        ·
          refine V_bipush 9 d_Mod_readCellOf_59 (by decide) ?_
          refine V_goto 76 d_Mod_readCellOf_61 (by decide) ?_
          refine N_callVI [.int 1, .int 9] [] cv_Mod_158 sk_116 rfl d_Mod_readCellOf_76 rfl (Nat.le_of_ble_eq_true rfl) (by decide) (by decide) (c_Mod_readNumberX h5 b (x_en b p0) hI7 1 1 tc_1 9 9 tc_9 s sZ sE (kn_call fh5 sK rfl) o9 o9Z o9E o9K o10 o10Z o10E o10K o11 o11Z o11E o11K o12 o12Z o12E o12K o13 o13Z o13E o13K o14 o14Z o14E o14K (TP_fr f8 (fun _ => rfl) hy0) (by omega) (Or.inl (by omega))) (fun z80 h81 z80Z z80E p82 => ?_)
          obtain ⟨hI83, fh81, o85, o85Z, o85E, o85K, o86, o86Z, o86E, o86K, o87, o87Z, o87E, o87K, o88, o88Z, o88E, o88K, o89, o89Z, o89E, o89K, o90, o90Z, o90E, o90K, p82⟩ := p82
          have f84 : fr S_Mod_readCellOfX_4 h h81 := fr_call f8 fh81 rfl
          have g91 : 0 ≤ o85Z ∧ o85Z ≤ 160 := inv_at hI83 o85E o85K.symm rfl
          have g92 : 0 ≤ o86Z ∧ o86Z ≤ 160 := inv_at hI83 o86E o86K.symm rfl
          have g93 := x_cS_s b (x_en b (x_en b p0))
          refine V_istore_n 3 [some (.ref 116), some (.int 4), some (.int z4), some (.int z80), none] d_Mod_readCellOf_79 rfl (by decide) rfl rfl ?_
          refine V_iload_n 1 d_Mod_readCellOf_80 rfl rfl ?_
          refine V_iconst 4 d_Mod_readCellOf_81 (by decide) ?_
          refine V_icmp_ne 89 tc_4 tc_4 d_Mod_readCellOf_82 (by decide) (fun c94 => ?_) (fun c94 => ?_)
          ·
            exact absurd c94 (by decide)
          ·
            refine V_iconst 0 d_Mod_readCellOf_85 (by decide) ?_
            refine V_goto 102 d_Mod_readCellOf_86 (by decide) ?_
            refine V_istore 4 [some (.ref 116), some (.int 4), some (.int z4), some (.int z80), some (.int 0)] d_Mod_readCellOf_102 (by decide) rfl rfl ?_
            refine V_aload_n 0 d_Mod_readCellOf_104 rfl rfl ?_
            refine V_getR fa_Mod_17 sk_116 rfl d_Mod_readCellOf_105 ?_
            refine V_iload d_Mod_readCellOf_108 rfl ?_
            refine V_iload_n 2 d_Mod_readCellOf_110 rfl rfl ?_
            refine V_iadd tc_0 z4E (by omega) d_Mod_readCellOf_111 (fun z95 z95e z95E => ?_)
            refine V_aload_n 0 d_Mod_readCellOf_112 rfl rfl ?_
            refine N_getK fa_Mod_102 sk_116 rfl d_Mod_readCellOf_113 o89K ?_
            refine V_if_ne 123 o89E d_Mod_readCellOf_116 (by decide) (fun c96 => ?_) (fun c96 => ?_)
            ·
              refine V_aload_n 0 d_Mod_readCellOf_123 rfl rfl ?_
              refine V_getR fa_Mod_17 sk_116 rfl d_Mod_readCellOf_124 ?_
              refine V_iload d_Mod_readCellOf_127 rfl ?_
              refine V_iload_n 2 d_Mod_readCellOf_129 rfl rfl ?_
              refine V_iadd tc_0 z4E (by omega) d_Mod_readCellOf_130 (fun z97 z97e z97E => ?_)
              refine N_iald sk_119 z97E (by omega) d_Mod_readCellOf_131 (fun z98 z98Z z98E z98e => ?_)
              refine N_iast sk_119 z95E (by omega) d_Mod_readCellOf_132 (fun h99 eh99 => ?_)
              have hI100 : Inv h99 := inv_full hI83 eh99 (st_lo (by omega))
              have f101 : fr S_Mod_readCellOfX_4 h h99 := fr_put f84 eh99 rfl
              exact V_vret rfl d_Mod_readCellOf_133 ⟨rfl, ⟨hI100, f101, o85, o85Z, o85E, (kn_ne eh99 o85K (by decide)), o86, o86Z, o86E, (kn_ne eh99 o86K (by decide)), o87, o87Z, o87E, (kn_ne eh99 o87K (by decide)), o88, o88Z, o88E, (kn_ne eh99 o88K (by decide)), o89, o89Z, o89E, (kn_ne eh99 o89K (by decide)), o90, o90Z, o90E, (kn_ne eh99 o90K (by decide)), ⟨Or.inl ⟨by omega, (show x_l1 b T p0 = (x_cN b (x_en b p0) 1 9, x_fr b (x_en b p0)) from by unfold x_l1; rw [x_sq_n (c := x_cN b p0 0 15) (by omega), x_sq_n (c := x_c4 (T 1 (x_vl b p0))) (by omega), x_sq_y (c := x_cN b (x_en b p0) 1 9) (by omega)]).trans (pq (by omega) (by omega))⟩, by omega, by omega, by omega⟩⟩⟩
            ·
              exact absurd c96 (by omega)
    ·
      exact absurd c77 (by decide)
  ·
    have g102 := x_cN_s b p0 0 15
    have g103 := x_c4_s (T 1 (x_vl b p0))
    have g104 := x_cN_s b (x_en b p0) 1 9
    obtain ⟨p61, p62, p63, p64, p6R⟩ := ((p6.1.resolve_left (fun q => by omega)).resolve_left (fun q => by omega))
    replace p6 := And.intro (p64.resolve_left (fun q => by omega)) p6.2
    clear p64
    refine V_iload_n 1 d_Mod_readCellOf_8 rfl rfl ?_
    refine V_iconst 5 d_Mod_readCellOf_9 (by decide) ?_
    refine V_icmp_ne 43 tc_4 tc_5 d_Mod_readCellOf_10 (by decide) (fun c105 => ?_) (fun c105 => ?_)
    ·
      refine V_aload_n 0 d_Mod_readCellOf_43 rfl rfl ?_
      refine V_iload_n 1 d_Mod_readCellOf_44 rfl rfl ?_
      refine V_iconst 4 d_Mod_readCellOf_45 (by decide) ?_
      refine V_icmp_ne 53 tc_4 tc_4 d_Mod_readCellOf_46 (by decide) (fun c106 => ?_) (fun c106 => ?_)
      ·
        exact absurd c106 (by decide)
      ·
        refine V_iconst 1 d_Mod_readCellOf_49 (by decide) ?_
        refine V_goto 54 d_Mod_readCellOf_50 (by decide) ?_
        refine V_iload_n 1 d_Mod_readCellOf_54 rfl rfl ?_
        refine V_iconst 4 d_Mod_readCellOf_55 (by decide) ?_
        refine V_icmp_ne 64 tc_4 tc_4 d_Mod_readCellOf_56 (by decide) (fun c107 => ?_) (fun c107 => ?_)
        ·
          exact absurd c107 (by decide)
        ·
          refine V_bipush 9 d_Mod_readCellOf_59 (by decide) ?_
          refine V_goto 76 d_Mod_readCellOf_61 (by decide) ?_
          refine N_callVI [.int 1, .int 9] [] cv_Mod_158 sk_116 rfl d_Mod_readCellOf_76 rfl (Nat.le_of_ble_eq_true rfl) (by decide) (by decide) (c_Mod_readNumberX h5 b (x_en b p0) hI7 1 1 tc_1 9 9 tc_9 s sZ sE (kn_call fh5 sK rfl) o9 o9Z o9E o9K o10 o10Z o10E o10K o11 o11Z o11E o11K o12 o12Z o12E o12K o13 o13Z o13E o13K o14 o14Z o14E o14K (TP_fr f8 (fun _ => rfl) hy0) (by omega) (Or.inr ⟨by omega, by omega, by omega, by omega, by omega, by omega, by omega, by omega, by omega, by omega, by omega⟩)) (fun z108 h109 z108Z z108E p110 => ?_)
          obtain ⟨hI111, fh109, o113, o113Z, o113E, o113K, o114, o114Z, o114E, o114K, o115, o115Z, o115E, o115K, o116, o116Z, o116E, o116K, o117, o117Z, o117E, o117K, o118, o118Z, o118E, o118K, p110⟩ := p110
          have f112 : fr S_Mod_readCellOfX_4 h h109 := fr_call f8 fh109 rfl
          have R119 : RM h109 (x_upT T 1 (x_vl b p0)) D := RM_fr fh109 rfl p6R
          have g120 : 0 ≤ o113Z ∧ o113Z ≤ 160 := inv_at hI111 o113E o113K.symm rfl
          have g121 : 0 ≤ o114Z ∧ o114Z ≤ 160 := inv_at hI111 o114E o114K.symm rfl
          rcases (by omega : o117Z ≠ 0 ∧ x_cN b (x_en b p0) 1 9 ≠ 0 ∨ o117Z ≠ 0 ∧ x_cN b (x_en b p0) 1 9 = 0 ∨ o117Z = 0) with c122 | c122 | c122
          ·
            have g123 := x_cS_s b (x_en b (x_en b p0))
            replace p110 := And.intro ((p110.1.resolve_left (fun q => by omega)).resolve_right (fun q => by omega)) p110.2
            refine V_istore_n 3 [some (.ref 116), some (.int 4), some (.int z4), some (.int z108), none] d_Mod_readCellOf_79 rfl (by decide) rfl rfl ?_
            refine V_iload_n 1 d_Mod_readCellOf_80 rfl rfl ?_
            refine V_iconst 4 d_Mod_readCellOf_81 (by decide) ?_
            refine V_icmp_ne 89 tc_4 tc_4 d_Mod_readCellOf_82 (by decide) (fun c124 => ?_) (fun c124 => ?_)
            ·
              exact absurd c124 (by decide)
            ·
              refine V_iconst 0 d_Mod_readCellOf_85 (by decide) ?_
              refine V_goto 102 d_Mod_readCellOf_86 (by decide) ?_
              refine V_istore 4 [some (.ref 116), some (.int 4), some (.int z4), some (.int z108), some (.int 0)] d_Mod_readCellOf_102 (by decide) rfl rfl ?_
              refine V_aload_n 0 d_Mod_readCellOf_104 rfl rfl ?_
              refine V_getR fa_Mod_17 sk_116 rfl d_Mod_readCellOf_105 ?_
              refine V_iload d_Mod_readCellOf_108 rfl ?_
              refine V_iload_n 2 d_Mod_readCellOf_110 rfl rfl ?_
              refine V_iadd tc_0 z4E (by omega) d_Mod_readCellOf_111 (fun z125 z125e z125E => ?_)
              refine V_aload_n 0 d_Mod_readCellOf_112 rfl rfl ?_
              refine N_getK fa_Mod_102 sk_116 rfl d_Mod_readCellOf_113 o117K ?_
              refine V_if_ne 123 o117E d_Mod_readCellOf_116 (by decide) (fun c126 => ?_) (fun c126 => ?_)
              ·
                refine V_aload_n 0 d_Mod_readCellOf_123 rfl rfl ?_
                refine V_getR fa_Mod_17 sk_116 rfl d_Mod_readCellOf_124 ?_
                refine V_iload d_Mod_readCellOf_127 rfl ?_
                refine V_iload_n 2 d_Mod_readCellOf_129 rfl rfl ?_
                refine V_iadd tc_0 z4E (by omega) d_Mod_readCellOf_130 (fun z127 z127e z127E => ?_)
                refine N_iald sk_119 z127E (by omega) d_Mod_readCellOf_131 (fun z128 z128Z z128E z128e => ?_)
                refine N_iast sk_119 z125E (by omega) d_Mod_readCellOf_132 (fun h129 eh129 => ?_)
                have hI130 : Inv h129 := inv_full hI111 eh129 (st_lo (by omega))
                have f131 : fr S_Mod_readCellOfX_4 h h129 := fr_put f112 eh129 rfl
                exact V_vret rfl d_Mod_readCellOf_133 ⟨rfl, ⟨hI130, f131, o113, o113Z, o113E, (kn_ne eh129 o113K (by decide)), o114, o114Z, o114E, (kn_ne eh129 o114K (by decide)), o115, o115Z, o115E, (kn_ne eh129 o115K (by decide)), o116, o116Z, o116E, (kn_ne eh129 o116K (by decide)), o117, o117Z, o117E, (kn_ne eh129 o117K (by decide)), o118, o118Z, o118E, (kn_ne eh129 o118K (by decide)), ⟨Or.inl ⟨by omega, (show x_l1 b T p0 = (x_cN b (x_en b p0) 1 9, x_fr b (x_en b p0)) from by unfold x_l1; rw [x_sq_n (c := x_cN b p0 0 15) (by omega), x_sq_n (c := x_c4 (T 1 (x_vl b p0))) (by omega), x_sq_y (c := x_cN b (x_en b p0) 1 9) (by omega)]).trans (pq (by omega) (by omega))⟩, by omega, by omega, by omega⟩⟩⟩
              ·
                exact absurd c126 (by omega)
          ·
            have g132 := x_cS_s b (x_en b (x_en b p0))
            replace p110 := And.intro ((p110.1.resolve_left (fun q => by omega)).resolve_left (fun q => by omega)).2.1 (And.intro ((p110.1.resolve_left (fun q => by omega)).resolve_left (fun q => by omega)).2.2.1 (And.intro (((p110.1.resolve_left (fun q => by omega)).resolve_left (fun q => by omega)).2.2.2.resolve_right (fun q => by omega)) p110.2))
            refine V_istore_n 3 [some (.ref 116), some (.int 4), some (.int z4), some (.int z108), none] d_Mod_readCellOf_79 rfl (by decide) rfl rfl ?_
            refine V_iload_n 1 d_Mod_readCellOf_80 rfl rfl ?_
            refine V_iconst 4 d_Mod_readCellOf_81 (by decide) ?_
            refine V_icmp_ne 89 tc_4 tc_4 d_Mod_readCellOf_82 (by decide) (fun c133 => ?_) (fun c133 => ?_)
            ·
              exact absurd c133 (by decide)
            ·
              refine V_iconst 0 d_Mod_readCellOf_85 (by decide) ?_
              refine V_goto 102 d_Mod_readCellOf_86 (by decide) ?_
              refine V_istore 4 [some (.ref 116), some (.int 4), some (.int z4), some (.int z108), some (.int 0)] d_Mod_readCellOf_102 (by decide) rfl rfl ?_
              refine V_aload_n 0 d_Mod_readCellOf_104 rfl rfl ?_
              refine V_getR fa_Mod_17 sk_116 rfl d_Mod_readCellOf_105 ?_
              refine V_iload d_Mod_readCellOf_108 rfl ?_
              refine V_iload_n 2 d_Mod_readCellOf_110 rfl rfl ?_
              refine V_iadd tc_0 z4E (by omega) d_Mod_readCellOf_111 (fun z134 z134e z134E => ?_)
              refine V_aload_n 0 d_Mod_readCellOf_112 rfl rfl ?_
              refine N_getK fa_Mod_102 sk_116 rfl d_Mod_readCellOf_113 o117K ?_
              refine V_if_ne 123 o117E d_Mod_readCellOf_116 (by decide) (fun c135 => ?_) (fun c135 => ?_)
              ·
                refine V_aload_n 0 d_Mod_readCellOf_123 rfl rfl ?_
                refine V_getR fa_Mod_17 sk_116 rfl d_Mod_readCellOf_124 ?_
                refine V_iload d_Mod_readCellOf_127 rfl ?_
                refine V_iload_n 2 d_Mod_readCellOf_129 rfl rfl ?_
                refine V_iadd tc_0 z4E (by omega) d_Mod_readCellOf_130 (fun z136 z136e z136E => ?_)
                refine N_iald sk_119 z136E (by omega) d_Mod_readCellOf_131 (fun z137 z137Z z137E z137e => ?_)
                refine N_iast sk_119 z134E (by omega) d_Mod_readCellOf_132 (fun h138 eh138 => ?_)
                have hI139 : Inv h138 := inv_full hI111 eh138 (st_lo (by omega))
                have f140 : fr S_Mod_readCellOfX_4 h h138 := fr_put f112 eh138 rfl
                exact V_vret rfl d_Mod_readCellOf_133 ⟨rfl, ⟨hI139, f140, o113, o113Z, o113E, (kn_ne eh138 o113K (by decide)), o114, o114Z, o114E, (kn_ne eh138 o114K (by decide)), o115, o115Z, o115E, (kn_ne eh138 o115K (by decide)), o116, o116Z, o116E, (kn_ne eh138 o116K (by decide)), o117, o117Z, o117E, (kn_ne eh138 o117K (by decide)), o118, o118Z, o118E, (kn_ne eh138 o118K (by decide)), ⟨Or.inl ⟨by omega, (show x_l1 b T p0 = (x_cS b (x_en b (x_en b p0)), x_fr b (x_en b (x_en b p0))) from by unfold x_l1; rw [x_sq_n (c := x_cN b p0 0 15) (by omega), x_sq_n (c := x_c4 (T 1 (x_vl b p0))) (by omega), x_sq_n (c := x_cN b (x_en b p0) 1 9) (by omega), x_sq_y (c := x_cS b (x_en b (x_en b p0))) (by omega)]).trans (pq (by omega) (by omega))⟩, by omega, by omega, by omega⟩⟩⟩
              ·
                exact absurd c135 (by omega)
          ·
            have g141 := x_cS_s b (x_en b (x_en b p0))
            replace p110 := And.intro ((p110.1.resolve_left (fun q => by omega)).resolve_left (fun q => by omega)).2.1 (And.intro ((p110.1.resolve_left (fun q => by omega)).resolve_left (fun q => by omega)).2.2.1 (And.intro (((p110.1.resolve_left (fun q => by omega)).resolve_left (fun q => by omega)).2.2.2.resolve_left (fun q => by omega)) p110.2))
            refine V_istore_n 3 [some (.ref 116), some (.int 4), some (.int z4), some (.int z108), none] d_Mod_readCellOf_79 rfl (by decide) rfl rfl ?_
            refine V_iload_n 1 d_Mod_readCellOf_80 rfl rfl ?_
            refine V_iconst 4 d_Mod_readCellOf_81 (by decide) ?_
            refine V_icmp_ne 89 tc_4 tc_4 d_Mod_readCellOf_82 (by decide) (fun c142 => ?_) (fun c142 => ?_)
            ·
              exact absurd c142 (by decide)
            ·
              refine V_iconst 0 d_Mod_readCellOf_85 (by decide) ?_
              refine V_goto 102 d_Mod_readCellOf_86 (by decide) ?_
              refine V_istore 4 [some (.ref 116), some (.int 4), some (.int z4), some (.int z108), some (.int 0)] d_Mod_readCellOf_102 (by decide) rfl rfl ?_
              refine V_aload_n 0 d_Mod_readCellOf_104 rfl rfl ?_
              refine V_getR fa_Mod_17 sk_116 rfl d_Mod_readCellOf_105 ?_
              refine V_iload d_Mod_readCellOf_108 rfl ?_
              refine V_iload_n 2 d_Mod_readCellOf_110 rfl rfl ?_
              refine V_iadd tc_0 z4E (by omega) d_Mod_readCellOf_111 (fun z143 z143e z143E => ?_)
              refine V_aload_n 0 d_Mod_readCellOf_112 rfl rfl ?_
              refine N_getK fa_Mod_102 sk_116 rfl d_Mod_readCellOf_113 o117K ?_
              refine V_if_ne 123 o117E d_Mod_readCellOf_116 (by decide) (fun c144 => ?_) (fun c144 => ?_)
              ·
                exact absurd c144 (by omega)
              ·
                refine V_iload_n 3 d_Mod_readCellOf_119 rfl rfl ?_
                refine V_goto 132 d_Mod_readCellOf_120 (by decide) ?_
                refine N_iast sk_119 z143E (by omega) d_Mod_readCellOf_132 (fun h145 eh145 => ?_)
                have hI146 : Inv h145 := inv_full hI111 eh145 (st_lo (by omega))
                have f147 : fr S_Mod_readCellOfX_4 h h145 := fr_put f112 eh145 rfl
                have R148 : RM h145 (x_upT T 1 (x_vl b p0)) (x_up D (x_vl b p0) (x_vl b (x_en b p0))) := RM_put R119 eh145 (Or.inl ⟨rfl, by omega, rfl⟩) (z108E.trans (by omega)) (by omega)
                exact V_vret rfl d_Mod_readCellOf_133 ⟨rfl, ⟨hI146, f147, o113, o113Z, o113E, (kn_ne eh145 o113K (by decide)), o114, o114Z, o114E, (kn_ne eh145 o114K (by decide)), o115, o115Z, o115E, (kn_ne eh145 o115K (by decide)), o116, o116Z, o116E, (kn_ne eh145 o116K (by decide)), o117, o117Z, o117E, (kn_ne eh145 o117K (by decide)), o118, o118Z, o118E, (kn_ne eh145 o118K (by decide)), ⟨Or.inr ⟨by omega, by unfold x_l1; rw [x_sq_n (c := x_cN b p0 0 15) (by omega), x_sq_n (c := x_c4 (T 1 (x_vl b p0))) (by omega), x_sq_n (c := x_cN b (x_en b p0) 1 9) (by omega)], ⟨by omega, by omega, by omega, by omega, by omega, by omega, by omega, by omega, by omega, by omega, by omega⟩, R148⟩, by omega, by omega, by omega⟩⟩⟩
    ·
      exact absurd c105 (by decide)
def S_Mod_readCellOfX_5 : List (Nat × Option Nat) := [(116, some 16), (116, some 17), (116, some 18), (116, some 19), (116, some 20), (116, some 21), (119, none), (120, some 1), (116, some 13)]
abbrev q_Mod_readCellOfX_5 (h : Hp) (b : Int → Int) (T : Nat → Int → Int) (D : Nat → Int) (p0 : Int) (s : Int32) (sZ : Int) (p : Int32) (pZ : Int) (g : Int32) (gZ : Int) (k : Int32) (kZ : Int) (v : Int32) (vZ : Int) (w : Int32) (wZ : Int) (a : Int32) (aZ : Int) (z : Int32) (zZ : Int) (i : Int32) (iZ : Int) : Option Value → Hp → Prop := pVd (fun h' => Inv h' ∧ fr S_Mod_readCellOfX_5 h h' ∧ ∃ (q : Int32) (qZ : Int), q.toInt = qZ ∧ h'.1 116 16 = q ∧ ∃ (f : Int32) (fZ : Int), f.toInt = fZ ∧ h'.1 116 17 = f ∧ ∃ (m : Int32) (mZ : Int), m.toInt = mZ ∧ h'.1 116 18 = m ∧ ∃ (x : Int32) (xZ : Int), x.toInt = xZ ∧ h'.1 116 19 = x ∧ ∃ (u : Int32) (uZ : Int), u.toInt = uZ ∧ h'.1 116 20 = u ∧ ∃ (y : Int32) (yZ : Int), y.toInt = yZ ∧ h'.1 116 21 = y ∧ ((uZ ≠ 0 ∧ x_l2 b T p0 = (uZ, yZ) ∨ uZ = 0 ∧ x_l2 b T p0 = x_sq (x_cS b (x_en b p0)) (x_fr b (x_en b p0)) (0, x_en b (x_en b p0)) ∧ (fZ = x_fr b (x_en b p0) ∧ mZ = x_kd b (x_en b p0) ∧ mZ ≠ 4 ∧ 0 ≤ mZ ∧ mZ ≤ 3 ∧ qZ = x_en b (x_en b p0) ∧ (mZ ≠ 2 ∨ xZ = x_vl b (x_en b p0) ∧ 0 ≤ xZ ∧ xZ ≤ 99) ∧ (x_en b p0) ≤ fZ ∧ fZ ≤ qZ ∧ qZ ≤ sZ ∧ (mZ = 0 ∨ fZ < qZ)) ∧ RM h' (x_upT T 2 (x_vl b p0)) (x_up D (16 + (x_vl b p0)) 1)) ∧ 0 ≤ qZ ∧ qZ ≤ sZ ∧ 0 ≤ uZ))
set_option maxRecDepth 100000 in
theorem c_Mod_readCellOfX_5 (h : Hp) (b : Int → Int) (T : Nat → Int → Int) (D : Nat → Int) (p0 : Int) (hI : Inv h) (s : Int32) (sZ : Int) (sE : s.toInt = sZ) (sK : h.1 116 15 = s) (p : Int32) (pZ : Int) (pE : p.toInt = pZ) (pK : h.1 116 16 = p) (g : Int32) (gZ : Int) (gE : g.toInt = gZ) (gK : h.1 116 17 = g) (k : Int32) (kZ : Int) (kE : k.toInt = kZ) (kK : h.1 116 18 = k) (v : Int32) (vZ : Int) (vE : v.toInt = vZ) (vK : h.1 116 19 = v) (w : Int32) (wZ : Int) (wE : w.toInt = wZ) (wK : h.1 116 20 = w) (a : Int32) (aZ : Int) (aE : a.toInt = aZ) (aK : h.1 116 21 = a) (z : Int32) (zZ : Int) (zE : z.toInt = zZ) (zK : h.1 120 1 = z) (i : Int32) (iZ : Int) (iE : i.toInt = iZ) (iK : h.1 116 13 = i) (hy0 : TP h 121 sZ b) (hy1 : 0 ≤ pZ ∧ pZ ≤ sZ ∧ wZ = 0) (hy2 : gZ = x_fr b p0 ∧ kZ = x_kd b p0 ∧ kZ ≠ 4 ∧ 0 ≤ kZ ∧ kZ ≤ 3 ∧ pZ = x_en b p0 ∧ (kZ ≠ 2 ∨ vZ = x_vl b p0 ∧ 0 ≤ vZ ∧ vZ ≤ 99) ∧ p0 ≤ gZ ∧ gZ ≤ pZ ∧ pZ ≤ sZ ∧ (kZ = 0 ∨ gZ < pZ)) (hy3 : RM h T D) : Ct y_Mod_readCellOf b_Mod_readCellOf 5 none 3 70 [.ref 116, .int 5] h (q_Mod_readCellOfX_5 h b T D p0 s sZ p pZ g gZ k kZ v vZ w wZ a aZ z zZ i iZ) := by
  refine ct_ow R_Mod [some (.ref 116), some (.int 5), none, none, none] rfl (by decide) rfl (Nat.le_of_ble_eq_true rfl) ?_
  have f0 : fr S_Mod_readCellOfX_5 h h := fr_rf
  have g1 : 0 ≤ sZ ∧ sZ ≤ 160 := inv_at hI sE sK.symm rfl
  have g2 : 0 ≤ pZ ∧ pZ ≤ 160 := inv_at hI pE pK.symm rfl
  have g3 : 0 ≤ gZ ∧ gZ ≤ 160 := inv_at hI gE gK.symm rfl
  refine V_aload_n 0 d_Mod_readCellOf_0 rfl rfl ?_
  refine V_iload_n 1 d_Mod_readCellOf_1 rfl rfl ?_
  refine V_bipush 15 d_Mod_readCellOf_2 (by decide) ?_
  refine N_callVI [.int 5, .int 15] [] cv_Mod_161 sk_116 rfl d_Mod_readCellOf_4 rfl (Nat.le_of_ble_eq_true rfl) (by decide) (by decide) (c_Mod_readFreshX_5 h b T D p0 hI s sZ sE sK p pZ pE pK g gZ gE gK k kZ kE kK v vZ vE vK w wZ wE wK a aZ aE aK z zZ zE zK i iZ iE iK (TP_fr f0 (fun _ => rfl) hy0) (by omega) ⟨by omega, by omega, by omega, by omega, by omega, by omega, by omega, by omega, by omega, by omega, by omega⟩ hy3) (fun z4 h5 z4Z z4E p6 => ?_)
  obtain ⟨hI7, fh5, o9, o9Z, o9E, o9K, o10, o10Z, o10E, o10K, o11, o11Z, o11E, o11K, o12, o12Z, o12E, o12K, o13, o13Z, o13E, o13K, o14, o14Z, o14E, o14K, p6⟩ := p6
  have f8 : fr S_Mod_readCellOfX_5 h h5 := fr_call f0 fh5 rfl
  have g15 : 0 ≤ o9Z ∧ o9Z ≤ 160 := inv_at hI7 o9E o9K.symm rfl
  have g16 : 0 ≤ o10Z ∧ o10Z ≤ 160 := inv_at hI7 o10E o10K.symm rfl
  refine V_istore_n 2 [some (.ref 116), some (.int 5), some (.int z4), none, none] d_Mod_readCellOf_7 rfl (by decide) rfl rfl ?_
  rcases (by omega : o13Z ≠ 0 ∧ x_cN b p0 0 15 ≠ 0 ∨ o13Z ≠ 0 ∧ x_cN b p0 0 15 = 0 ∧ x_c4 (T 2 (x_vl b p0)) ≠ 0 ∨ o13Z ≠ 0 ∧ x_cN b p0 0 15 = 0 ∧ x_c4 (T 2 (x_vl b p0)) = 0 ∨ o13Z = 0) with c17 | c17 | c17 | c17
  ·
    have g18 := x_cN_s b p0 0 15
    have g19 := x_c4_s (T 2 (x_vl b p0))
    have g20 := x_cS_s b (x_en b p0)
    replace p6 := And.intro (p6.1.resolve_right (fun q => by omega)) p6.2
    refine V_iload_n 1 d_Mod_readCellOf_8 rfl rfl ?_
    refine V_iconst 5 d_Mod_readCellOf_9 (by decide) ?_
    refine V_icmp_ne 43 tc_5 tc_5 d_Mod_readCellOf_10 (by decide) (fun c21 => ?_) (fun c21 => ?_)
    ·
      exact absurd c21 (by decide)
    ·
      refine V_aload_n 0 d_Mod_readCellOf_13 rfl rfl ?_
      refine V_getR fa_Mod_17 sk_116 rfl d_Mod_readCellOf_14 ?_
      refine V_bipush 16 d_Mod_readCellOf_17 (by decide) ?_
      refine V_iload_n 2 d_Mod_readCellOf_19 rfl rfl ?_
      refine V_iadd tc_16 z4E (by omega) d_Mod_readCellOf_20 (fun z22 z22e z22E => ?_)
      refine V_aload_n 0 d_Mod_readCellOf_21 rfl rfl ?_
      refine N_getK fa_Mod_102 sk_116 rfl d_Mod_readCellOf_22 o13K ?_
      refine V_if_ne 32 o13E d_Mod_readCellOf_25 (by decide) (fun c23 => ?_) (fun c23 => ?_)
      ·
        refine V_aload_n 0 d_Mod_readCellOf_32 rfl rfl ?_
        refine V_getR fa_Mod_17 sk_116 rfl d_Mod_readCellOf_33 ?_
        refine V_bipush 16 d_Mod_readCellOf_36 (by decide) ?_
        refine V_iload_n 2 d_Mod_readCellOf_38 rfl rfl ?_
        refine V_iadd tc_16 z4E (by omega) d_Mod_readCellOf_39 (fun z24 z24e z24E => ?_)
        refine N_iald sk_119 z24E (by omega) d_Mod_readCellOf_40 (fun z25 z25Z z25E z25e => ?_)
        refine N_iast sk_119 z22E (by omega) d_Mod_readCellOf_41 (fun h26 eh26 => ?_)
        have hI27 : Inv h26 := inv_full hI7 eh26 (st_lo (by omega))
        have f28 : fr S_Mod_readCellOfX_5 h h26 := fr_put f8 eh26 rfl
        exact V_vret rfl d_Mod_readCellOf_42 ⟨rfl, ⟨hI27, f28, o9, o9Z, o9E, (kn_ne eh26 o9K (by decide)), o10, o10Z, o10E, (kn_ne eh26 o10K (by decide)), o11, o11Z, o11E, (kn_ne eh26 o11K (by decide)), o12, o12Z, o12E, (kn_ne eh26 o12K (by decide)), o13, o13Z, o13E, (kn_ne eh26 o13K (by decide)), o14, o14Z, o14E, (kn_ne eh26 o14K (by decide)), ⟨Or.inl ⟨by omega, (show x_l2 b T p0 = (x_cN b p0 0 15, x_fr b p0) from by unfold x_l2; rw [x_sq_y (c := x_cN b p0 0 15) (by omega)]).trans (pq (by omega) (by omega))⟩, by omega, by omega, by omega⟩⟩⟩
      ·
        exact absurd c23 (by omega)
  ·
    have g29 := x_cN_s b p0 0 15
    have g30 := x_c4_s (T 2 (x_vl b p0))
    have g31 := x_cS_s b (x_en b p0)
    replace p6 := And.intro ((p6.1.resolve_left (fun q => by omega)).resolve_right (fun q => by omega)) p6.2
    refine V_iload_n 1 d_Mod_readCellOf_8 rfl rfl ?_
    refine V_iconst 5 d_Mod_readCellOf_9 (by decide) ?_
    refine V_icmp_ne 43 tc_5 tc_5 d_Mod_readCellOf_10 (by decide) (fun c32 => ?_) (fun c32 => ?_)
    ·
      exact absurd c32 (by decide)
    ·
      refine V_aload_n 0 d_Mod_readCellOf_13 rfl rfl ?_
      refine V_getR fa_Mod_17 sk_116 rfl d_Mod_readCellOf_14 ?_
      refine V_bipush 16 d_Mod_readCellOf_17 (by decide) ?_
      refine V_iload_n 2 d_Mod_readCellOf_19 rfl rfl ?_
      refine V_iadd tc_16 z4E (by omega) d_Mod_readCellOf_20 (fun z33 z33e z33E => ?_)
      refine V_aload_n 0 d_Mod_readCellOf_21 rfl rfl ?_
      refine N_getK fa_Mod_102 sk_116 rfl d_Mod_readCellOf_22 o13K ?_
      refine V_if_ne 32 o13E d_Mod_readCellOf_25 (by decide) (fun c34 => ?_) (fun c34 => ?_)
      ·
        refine V_aload_n 0 d_Mod_readCellOf_32 rfl rfl ?_
        refine V_getR fa_Mod_17 sk_116 rfl d_Mod_readCellOf_33 ?_
        refine V_bipush 16 d_Mod_readCellOf_36 (by decide) ?_
        refine V_iload_n 2 d_Mod_readCellOf_38 rfl rfl ?_
        refine V_iadd tc_16 z4E (by omega) d_Mod_readCellOf_39 (fun z35 z35e z35E => ?_)
        refine N_iald sk_119 z35E (by omega) d_Mod_readCellOf_40 (fun z36 z36Z z36E z36e => ?_)
        refine N_iast sk_119 z33E (by omega) d_Mod_readCellOf_41 (fun h37 eh37 => ?_)
        have hI38 : Inv h37 := inv_full hI7 eh37 (st_lo (by omega))
        have f39 : fr S_Mod_readCellOfX_5 h h37 := fr_put f8 eh37 rfl
        exact V_vret rfl d_Mod_readCellOf_42 ⟨rfl, ⟨hI38, f39, o9, o9Z, o9E, (kn_ne eh37 o9K (by decide)), o10, o10Z, o10E, (kn_ne eh37 o10K (by decide)), o11, o11Z, o11E, (kn_ne eh37 o11K (by decide)), o12, o12Z, o12E, (kn_ne eh37 o12K (by decide)), o13, o13Z, o13E, (kn_ne eh37 o13K (by decide)), o14, o14Z, o14E, (kn_ne eh37 o14K (by decide)), ⟨Or.inl ⟨by omega, (show x_l2 b T p0 = (x_c4 (T 2 (x_vl b p0)), x_fr b p0) from by unfold x_l2; rw [x_sq_n (c := x_cN b p0 0 15) (by omega), x_sq_y (c := x_c4 (T 2 (x_vl b p0))) (by omega)]).trans (pq (by omega) (by omega))⟩, by omega, by omega, by omega⟩⟩⟩
      ·
        exact absurd c34 (by omega)
  ·
    have g40 := x_cN_s b p0 0 15
    have g41 := x_c4_s (T 2 (x_vl b p0))
    have g42 := x_cS_s b (x_en b p0)
    replace p6 := And.intro (((p6.1.resolve_left (fun q => by omega)).resolve_left (fun q => by omega)).2.2.2.1.resolve_right (fun q => by omega)) p6.2
    refine V_iload_n 1 d_Mod_readCellOf_8 rfl rfl ?_
    refine V_iconst 5 d_Mod_readCellOf_9 (by decide) ?_
    refine V_icmp_ne 43 tc_5 tc_5 d_Mod_readCellOf_10 (by decide) (fun c43 => ?_) (fun c43 => ?_)
    ·
      exact absurd c43 (by decide)
    ·
      refine V_aload_n 0 d_Mod_readCellOf_13 rfl rfl ?_
      refine V_getR fa_Mod_17 sk_116 rfl d_Mod_readCellOf_14 ?_
      refine V_bipush 16 d_Mod_readCellOf_17 (by decide) ?_
      refine V_iload_n 2 d_Mod_readCellOf_19 rfl rfl ?_
      refine V_iadd tc_16 z4E (by omega) d_Mod_readCellOf_20 (fun z44 z44e z44E => ?_)
      refine V_aload_n 0 d_Mod_readCellOf_21 rfl rfl ?_
      refine N_getK fa_Mod_102 sk_116 rfl d_Mod_readCellOf_22 o13K ?_
      refine V_if_ne 32 o13E d_Mod_readCellOf_25 (by decide) (fun c45 => ?_) (fun c45 => ?_)
      ·
        refine V_aload_n 0 d_Mod_readCellOf_32 rfl rfl ?_
        refine V_getR fa_Mod_17 sk_116 rfl d_Mod_readCellOf_33 ?_
        refine V_bipush 16 d_Mod_readCellOf_36 (by decide) ?_
        refine V_iload_n 2 d_Mod_readCellOf_38 rfl rfl ?_
        refine V_iadd tc_16 z4E (by omega) d_Mod_readCellOf_39 (fun z46 z46e z46E => ?_)
        refine N_iald sk_119 z46E (by omega) d_Mod_readCellOf_40 (fun z47 z47Z z47E z47e => ?_)
        refine N_iast sk_119 z44E (by omega) d_Mod_readCellOf_41 (fun h48 eh48 => ?_)
        have hI49 : Inv h48 := inv_full hI7 eh48 (st_lo (by omega))
        have f50 : fr S_Mod_readCellOfX_5 h h48 := fr_put f8 eh48 rfl
        exact V_vret rfl d_Mod_readCellOf_42 ⟨rfl, ⟨hI49, f50, o9, o9Z, o9E, (kn_ne eh48 o9K (by decide)), o10, o10Z, o10E, (kn_ne eh48 o10K (by decide)), o11, o11Z, o11E, (kn_ne eh48 o11K (by decide)), o12, o12Z, o12E, (kn_ne eh48 o12K (by decide)), o13, o13Z, o13E, (kn_ne eh48 o13K (by decide)), o14, o14Z, o14E, (kn_ne eh48 o14K (by decide)), ⟨Or.inl ⟨by omega, (show x_l2 b T p0 = (x_cS b (x_en b p0), x_fr b (x_en b p0)) from by unfold x_l2; rw [x_sq_n (c := x_cN b p0 0 15) (by omega), x_sq_n (c := x_c4 (T 2 (x_vl b p0))) (by omega), x_sq_y (c := x_cS b (x_en b p0)) (by omega)]).trans (pq (by omega) (by omega))⟩, by omega, by omega, by omega⟩⟩⟩
      ·
        exact absurd c45 (by omega)
  ·
    have g51 := x_cN_s b p0 0 15
    have g52 := x_c4_s (T 2 (x_vl b p0))
    have g53 := x_cS_s b (x_en b p0)
    obtain ⟨p61, p62, p63, p64, p6R⟩ := ((p6.1.resolve_left (fun q => by omega)).resolve_left (fun q => by omega))
    replace p6 := And.intro (p64.resolve_left (fun q => by omega)) p6.2
    clear p64
    refine V_iload_n 1 d_Mod_readCellOf_8 rfl rfl ?_
    refine V_iconst 5 d_Mod_readCellOf_9 (by decide) ?_
    refine V_icmp_ne 43 tc_5 tc_5 d_Mod_readCellOf_10 (by decide) (fun c54 => ?_) (fun c54 => ?_)
    ·
      exact absurd c54 (by decide)
    ·
      refine V_aload_n 0 d_Mod_readCellOf_13 rfl rfl ?_
      refine V_getR fa_Mod_17 sk_116 rfl d_Mod_readCellOf_14 ?_
      refine V_bipush 16 d_Mod_readCellOf_17 (by decide) ?_
      refine V_iload_n 2 d_Mod_readCellOf_19 rfl rfl ?_
      refine V_iadd tc_16 z4E (by omega) d_Mod_readCellOf_20 (fun z55 z55e z55E => ?_)
      refine V_aload_n 0 d_Mod_readCellOf_21 rfl rfl ?_
      refine N_getK fa_Mod_102 sk_116 rfl d_Mod_readCellOf_22 o13K ?_
      refine V_if_ne 32 o13E d_Mod_readCellOf_25 (by decide) (fun c56 => ?_) (fun c56 => ?_)
      ·
        exact absurd c56 (by omega)
      ·
        refine V_iconst 1 d_Mod_readCellOf_28 (by decide) ?_
        refine V_goto 41 d_Mod_readCellOf_29 (by decide) ?_
        refine N_iast sk_119 z55E (by omega) d_Mod_readCellOf_41 (fun h57 eh57 => ?_)
        have hI58 : Inv h57 := inv_full hI7 eh57 (st_lo (by omega))
        have f59 : fr S_Mod_readCellOfX_5 h h57 := fr_put f8 eh57 rfl
        have R60 : RM h57 (x_upT T 2 (x_vl b p0)) (x_up D (16 + (x_vl b p0)) 1) := RM_put p6R eh57 (Or.inl ⟨rfl, by omega, rfl⟩) (tc_1.trans (by omega)) (by omega)
        exact V_vret rfl d_Mod_readCellOf_42 ⟨rfl, ⟨hI58, f59, o9, o9Z, o9E, (kn_ne eh57 o9K (by decide)), o10, o10Z, o10E, (kn_ne eh57 o10K (by decide)), o11, o11Z, o11E, (kn_ne eh57 o11K (by decide)), o12, o12Z, o12E, (kn_ne eh57 o12K (by decide)), o13, o13Z, o13E, (kn_ne eh57 o13K (by decide)), o14, o14Z, o14E, (kn_ne eh57 o14K (by decide)), ⟨Or.inr ⟨by omega, by unfold x_l2; rw [x_sq_n (c := x_cN b p0 0 15) (by omega), x_sq_n (c := x_c4 (T 2 (x_vl b p0))) (by omega)], ⟨by omega, by omega, by omega, by omega, by omega, by omega, by omega, by omega, by omega, by omega, by omega⟩, R60⟩, by omega, by omega, by omega⟩⟩⟩
def S_Mod_readCellOfX_6 : List (Nat × Option Nat) := [(116, some 16), (116, some 17), (116, some 18), (116, some 19), (116, some 20), (116, some 21), (119, none), (120, some 2), (116, some 13)]
abbrev q_Mod_readCellOfX_6 (h : Hp) (b : Int → Int) (T : Nat → Int → Int) (D : Nat → Int) (p0 : Int) (s : Int32) (sZ : Int) (p : Int32) (pZ : Int) (g : Int32) (gZ : Int) (k : Int32) (kZ : Int) (v : Int32) (vZ : Int) (w : Int32) (wZ : Int) (a : Int32) (aZ : Int) (z : Int32) (zZ : Int) (i : Int32) (iZ : Int) : Option Value → Hp → Prop := pVd (fun h' => Inv h' ∧ fr S_Mod_readCellOfX_6 h h' ∧ ∃ (q : Int32) (qZ : Int), q.toInt = qZ ∧ h'.1 116 16 = q ∧ ∃ (f : Int32) (fZ : Int), f.toInt = fZ ∧ h'.1 116 17 = f ∧ ∃ (m : Int32) (mZ : Int), m.toInt = mZ ∧ h'.1 116 18 = m ∧ ∃ (x : Int32) (xZ : Int), x.toInt = xZ ∧ h'.1 116 19 = x ∧ ∃ (u : Int32) (uZ : Int), u.toInt = uZ ∧ h'.1 116 20 = u ∧ ∃ (y : Int32) (yZ : Int), y.toInt = yZ ∧ h'.1 116 21 = y ∧ ((uZ ≠ 0 ∧ x_l3 b T p0 = (uZ, yZ) ∨ uZ = 0 ∧ x_l3 b T p0 = x_sq (x_cS b (x_en b (x_en b p0))) (x_fr b (x_en b (x_en b p0))) (0, x_en b (x_en b (x_en b p0))) ∧ (fZ = x_fr b (x_en b (x_en b p0)) ∧ mZ = x_kd b (x_en b (x_en b p0)) ∧ mZ ≠ 4 ∧ 0 ≤ mZ ∧ mZ ≤ 3 ∧ qZ = x_en b (x_en b (x_en b p0)) ∧ (mZ ≠ 2 ∨ xZ = x_vl b (x_en b (x_en b p0)) ∧ 0 ≤ xZ ∧ xZ ≤ 99) ∧ (x_en b (x_en b p0)) ≤ fZ ∧ fZ ≤ qZ ∧ qZ ≤ sZ ∧ (mZ = 0 ∨ fZ < qZ)) ∧ RM h' (x_upT T 3 (x_vl b p0)) (x_up D (32 + (x_vl b p0)) (x_vl b (x_en b p0)))) ∧ 0 ≤ qZ ∧ qZ ≤ sZ ∧ 0 ≤ uZ))
set_option maxRecDepth 100000 in
theorem c_Mod_readCellOfX_6 (h : Hp) (b : Int → Int) (T : Nat → Int → Int) (D : Nat → Int) (p0 : Int) (hI : Inv h) (s : Int32) (sZ : Int) (sE : s.toInt = sZ) (sK : h.1 116 15 = s) (p : Int32) (pZ : Int) (pE : p.toInt = pZ) (pK : h.1 116 16 = p) (g : Int32) (gZ : Int) (gE : g.toInt = gZ) (gK : h.1 116 17 = g) (k : Int32) (kZ : Int) (kE : k.toInt = kZ) (kK : h.1 116 18 = k) (v : Int32) (vZ : Int) (vE : v.toInt = vZ) (vK : h.1 116 19 = v) (w : Int32) (wZ : Int) (wE : w.toInt = wZ) (wK : h.1 116 20 = w) (a : Int32) (aZ : Int) (aE : a.toInt = aZ) (aK : h.1 116 21 = a) (z : Int32) (zZ : Int) (zE : z.toInt = zZ) (zK : h.1 120 2 = z) (i : Int32) (iZ : Int) (iE : i.toInt = iZ) (iK : h.1 116 13 = i) (hy0 : TP h 121 sZ b) (hy1 : 0 ≤ pZ ∧ pZ ≤ sZ ∧ wZ = 0) (hy2 : gZ = x_fr b p0 ∧ kZ = x_kd b p0 ∧ kZ ≠ 4 ∧ 0 ≤ kZ ∧ kZ ≤ 3 ∧ pZ = x_en b p0 ∧ (kZ ≠ 2 ∨ vZ = x_vl b p0 ∧ 0 ≤ vZ ∧ vZ ≤ 99) ∧ p0 ≤ gZ ∧ gZ ≤ pZ ∧ pZ ≤ sZ ∧ (kZ = 0 ∨ gZ < pZ)) (hy3 : RM h T D) : Ct y_Mod_readCellOf b_Mod_readCellOf 5 none 3 70 [.ref 116, .int 6] h (q_Mod_readCellOfX_6 h b T D p0 s sZ p pZ g gZ k kZ v vZ w wZ a aZ z zZ i iZ) := by
  refine ct_ow R_Mod [some (.ref 116), some (.int 6), none, none, none] rfl (by decide) rfl (Nat.le_of_ble_eq_true rfl) ?_
  have f0 : fr S_Mod_readCellOfX_6 h h := fr_rf
  have g1 : 0 ≤ sZ ∧ sZ ≤ 160 := inv_at hI sE sK.symm rfl
  have g2 : 0 ≤ pZ ∧ pZ ≤ 160 := inv_at hI pE pK.symm rfl
  have g3 : 0 ≤ gZ ∧ gZ ≤ 160 := inv_at hI gE gK.symm rfl
  refine V_aload_n 0 d_Mod_readCellOf_0 rfl rfl ?_
  refine V_iload_n 1 d_Mod_readCellOf_1 rfl rfl ?_
  refine V_bipush 15 d_Mod_readCellOf_2 (by decide) ?_
  refine N_callVI [.int 6, .int 15] [] cv_Mod_161 sk_116 rfl d_Mod_readCellOf_4 rfl (Nat.le_of_ble_eq_true rfl) (by decide) (by decide) (c_Mod_readFreshX_6 h b T D p0 hI s sZ sE sK p pZ pE pK g gZ gE gK k kZ kE kK v vZ vE vK w wZ wE wK a aZ aE aK z zZ zE zK i iZ iE iK (TP_fr f0 (fun _ => rfl) hy0) (by omega) ⟨by omega, by omega, by omega, by omega, by omega, by omega, by omega, by omega, by omega, by omega, by omega⟩ hy3) (fun z4 h5 z4Z z4E p6 => ?_)
  obtain ⟨hI7, fh5, o9, o9Z, o9E, o9K, o10, o10Z, o10E, o10K, o11, o11Z, o11E, o11K, o12, o12Z, o12E, o12K, o13, o13Z, o13E, o13K, o14, o14Z, o14E, o14K, p6⟩ := p6
  have f8 : fr S_Mod_readCellOfX_6 h h5 := fr_call f0 fh5 rfl
  have g15 : 0 ≤ o9Z ∧ o9Z ≤ 160 := inv_at hI7 o9E o9K.symm rfl
  have g16 : 0 ≤ o10Z ∧ o10Z ≤ 160 := inv_at hI7 o10E o10K.symm rfl
  refine V_istore_n 2 [some (.ref 116), some (.int 6), some (.int z4), none, none] d_Mod_readCellOf_7 rfl (by decide) rfl rfl ?_
  rcases (by omega : o13Z ≠ 0 ∧ x_cN b p0 0 15 ≠ 0 ∨ o13Z ≠ 0 ∧ x_cN b p0 0 15 = 0 ∧ x_c4 (T 3 (x_vl b p0)) ≠ 0 ∨ o13Z ≠ 0 ∧ x_cN b p0 0 15 = 0 ∧ x_c4 (T 3 (x_vl b p0)) = 0 ∨ o13Z = 0) with c17 | c17 | c17 | c17
  ·
    have g18 := x_cN_s b p0 0 15
    have g19 := x_c4_s (T 3 (x_vl b p0))
    have g20 := x_cN_s b (x_en b p0) 0 10
    replace p6 := And.intro (p6.1.resolve_right (fun q => by omega)) p6.2
    refine V_iload_n 1 d_Mod_readCellOf_8 rfl rfl ?_
    refine V_iconst 5 d_Mod_readCellOf_9 (by decide) ?_
    refine V_icmp_ne 43 tc_6 tc_5 d_Mod_readCellOf_10 (by decide) (fun c21 => ?_) (fun c21 => ?_)
    ·
      refine V_aload_n 0 d_Mod_readCellOf_43 rfl rfl ?_
      refine V_iload_n 1 d_Mod_readCellOf_44 rfl rfl ?_
      refine V_iconst 4 d_Mod_readCellOf_45 (by decide) ?_
      refine V_icmp_ne 53 tc_6 tc_4 d_Mod_readCellOf_46 (by decide) (fun c22 => ?_) (fun c22 => ?_)
      ·
        refine V_iconst 0 d_Mod_readCellOf_53 (by decide) ?_
        refine V_iload_n 1 d_Mod_readCellOf_54 rfl rfl ?_
        refine V_iconst 4 d_Mod_readCellOf_55 (by decide) ?_
        refine V_icmp_ne 64 tc_6 tc_4 d_Mod_readCellOf_56 (by decide) (fun c23 => ?_) (fun c23 => ?_)
        ·
          refine V_iload_n 1 d_Mod_readCellOf_64 rfl rfl ?_
          refine V_bipush 6 d_Mod_readCellOf_65 (by decide) ?_
          refine V_icmp_ne 75 tc_6 tc_6 d_Mod_readCellOf_67 (by decide) (fun c24 => ?_) (fun c24 => ?_)
          ·
            exact absurd c24 (by decide)
          ·
            refine V_bipush 10 d_Mod_readCellOf_70 (by decide) ?_
            refine V_goto 76 d_Mod_readCellOf_72 (by decide) ?_
            refine N_callVI [.int 0, .int 10] [] cv_Mod_158 sk_116 rfl d_Mod_readCellOf_76 rfl (Nat.le_of_ble_eq_true rfl) (by decide) (by decide) (c_Mod_readNumberX h5 b (x_en b p0) hI7 0 0 tc_0 10 10 tc_10 s sZ sE (kn_call fh5 sK rfl) o9 o9Z o9E o9K o10 o10Z o10E o10K o11 o11Z o11E o11K o12 o12Z o12E o12K o13 o13Z o13E o13K o14 o14Z o14E o14K (TP_fr f8 (fun _ => rfl) hy0) (by omega) (Or.inl (by omega))) (fun z25 h26 z25Z z25E p27 => ?_)
            obtain ⟨hI28, fh26, o30, o30Z, o30E, o30K, o31, o31Z, o31E, o31K, o32, o32Z, o32E, o32K, o33, o33Z, o33E, o33K, o34, o34Z, o34E, o34K, o35, o35Z, o35E, o35K, p27⟩ := p27
            have f29 : fr S_Mod_readCellOfX_6 h h26 := fr_call f8 fh26 rfl
            have g36 : 0 ≤ o30Z ∧ o30Z ≤ 160 := inv_at hI28 o30E o30K.symm rfl
            have g37 : 0 ≤ o31Z ∧ o31Z ≤ 160 := inv_at hI28 o31E o31K.symm rfl
            have g38 := x_cS_s b (x_en b (x_en b p0))
            refine V_istore_n 3 [some (.ref 116), some (.int 6), some (.int z4), some (.int z25), none] d_Mod_readCellOf_79 rfl (by decide) rfl rfl ?_
            refine V_iload_n 1 d_Mod_readCellOf_80 rfl rfl ?_
            refine V_iconst 4 d_Mod_readCellOf_81 (by decide) ?_
            refine V_icmp_ne 89 tc_6 tc_4 d_Mod_readCellOf_82 (by decide) (fun c39 => ?_) (fun c39 => ?_)
            ·
              refine V_iload_n 1 d_Mod_readCellOf_89 rfl rfl ?_
              refine V_bipush 6 d_Mod_readCellOf_90 (by decide) ?_
              refine V_icmp_ne 100 tc_6 tc_6 d_Mod_readCellOf_92 (by decide) (fun c40 => ?_) (fun c40 => ?_)
              ·
                exact absurd c40 (by decide)
              ·
                refine V_bipush 32 d_Mod_readCellOf_95 (by decide) ?_
                refine V_goto 102 d_Mod_readCellOf_97 (by decide) ?_
                refine V_istore 4 [some (.ref 116), some (.int 6), some (.int z4), some (.int z25), some (.int 32)] d_Mod_readCellOf_102 (by decide) rfl rfl ?_
                refine V_aload_n 0 d_Mod_readCellOf_104 rfl rfl ?_
                refine V_getR fa_Mod_17 sk_116 rfl d_Mod_readCellOf_105 ?_
                refine V_iload d_Mod_readCellOf_108 rfl ?_
                refine V_iload_n 2 d_Mod_readCellOf_110 rfl rfl ?_
                refine V_iadd tc_32 z4E (by omega) d_Mod_readCellOf_111 (fun z41 z41e z41E => ?_)
                refine V_aload_n 0 d_Mod_readCellOf_112 rfl rfl ?_
                refine N_getK fa_Mod_102 sk_116 rfl d_Mod_readCellOf_113 o34K ?_
                refine V_if_ne 123 o34E d_Mod_readCellOf_116 (by decide) (fun c42 => ?_) (fun c42 => ?_)
                ·
                  refine V_aload_n 0 d_Mod_readCellOf_123 rfl rfl ?_
                  refine V_getR fa_Mod_17 sk_116 rfl d_Mod_readCellOf_124 ?_
                  refine V_iload d_Mod_readCellOf_127 rfl ?_
                  refine V_iload_n 2 d_Mod_readCellOf_129 rfl rfl ?_
                  refine V_iadd tc_32 z4E (by omega) d_Mod_readCellOf_130 (fun z43 z43e z43E => ?_)
                  refine N_iald sk_119 z43E (by omega) d_Mod_readCellOf_131 (fun z44 z44Z z44E z44e => ?_)
                  refine N_iast sk_119 z41E (by omega) d_Mod_readCellOf_132 (fun h45 eh45 => ?_)
                  have hI46 : Inv h45 := inv_full hI28 eh45 (st_lo (by omega))
                  have f47 : fr S_Mod_readCellOfX_6 h h45 := fr_put f29 eh45 rfl
                  exact V_vret rfl d_Mod_readCellOf_133 ⟨rfl, ⟨hI46, f47, o30, o30Z, o30E, (kn_ne eh45 o30K (by decide)), o31, o31Z, o31E, (kn_ne eh45 o31K (by decide)), o32, o32Z, o32E, (kn_ne eh45 o32K (by decide)), o33, o33Z, o33E, (kn_ne eh45 o33K (by decide)), o34, o34Z, o34E, (kn_ne eh45 o34K (by decide)), o35, o35Z, o35E, (kn_ne eh45 o35K (by decide)), ⟨Or.inl ⟨by omega, (show x_l3 b T p0 = (x_cN b p0 0 15, x_fr b p0) from by unfold x_l3; rw [x_sq_y (c := x_cN b p0 0 15) (by omega)]).trans (pq (by omega) (by omega))⟩, by omega, by omega, by omega⟩⟩⟩
                ·
                  exact absurd c42 (by omega)
            ·
              exact absurd c39 (by decide)
        ·
          exact absurd c23 (by decide)
      ·
        exact absurd c22 (by decide)
    ·
      exact absurd c21 (by decide)
  ·
    have g48 := x_cN_s b p0 0 15
    have g49 := x_c4_s (T 3 (x_vl b p0))
    have g50 := x_cN_s b (x_en b p0) 0 10
    replace p6 := And.intro ((p6.1.resolve_left (fun q => by omega)).resolve_right (fun q => by omega)) p6.2
    refine V_iload_n 1 d_Mod_readCellOf_8 rfl rfl ?_
    refine V_iconst 5 d_Mod_readCellOf_9 (by decide) ?_
    refine V_icmp_ne 43 tc_6 tc_5 d_Mod_readCellOf_10 (by decide) (fun c51 => ?_) (fun c51 => ?_)
    ·
      refine V_aload_n 0 d_Mod_readCellOf_43 rfl rfl ?_
      refine V_iload_n 1 d_Mod_readCellOf_44 rfl rfl ?_
      refine V_iconst 4 d_Mod_readCellOf_45 (by decide) ?_
      refine V_icmp_ne 53 tc_6 tc_4 d_Mod_readCellOf_46 (by decide) (fun c52 => ?_) (fun c52 => ?_)
      ·
        refine V_iconst 0 d_Mod_readCellOf_53 (by decide) ?_
        refine V_iload_n 1 d_Mod_readCellOf_54 rfl rfl ?_
        refine V_iconst 4 d_Mod_readCellOf_55 (by decide) ?_
        refine V_icmp_ne 64 tc_6 tc_4 d_Mod_readCellOf_56 (by decide) (fun c53 => ?_) (fun c53 => ?_)
        ·
          refine V_iload_n 1 d_Mod_readCellOf_64 rfl rfl ?_
          refine V_bipush 6 d_Mod_readCellOf_65 (by decide) ?_
          refine V_icmp_ne 75 tc_6 tc_6 d_Mod_readCellOf_67 (by decide) (fun c54 => ?_) (fun c54 => ?_)
          ·
            exact absurd c54 (by decide)
          ·
            refine V_bipush 10 d_Mod_readCellOf_70 (by decide) ?_
            refine V_goto 76 d_Mod_readCellOf_72 (by decide) ?_
            refine N_callVI [.int 0, .int 10] [] cv_Mod_158 sk_116 rfl d_Mod_readCellOf_76 rfl (Nat.le_of_ble_eq_true rfl) (by decide) (by decide) (c_Mod_readNumberX h5 b (x_en b p0) hI7 0 0 tc_0 10 10 tc_10 s sZ sE (kn_call fh5 sK rfl) o9 o9Z o9E o9K o10 o10Z o10E o10K o11 o11Z o11E o11K o12 o12Z o12E o12K o13 o13Z o13E o13K o14 o14Z o14E o14K (TP_fr f8 (fun _ => rfl) hy0) (by omega) (Or.inl (by omega))) (fun z55 h56 z55Z z55E p57 => ?_)
            obtain ⟨hI58, fh56, o60, o60Z, o60E, o60K, o61, o61Z, o61E, o61K, o62, o62Z, o62E, o62K, o63, o63Z, o63E, o63K, o64, o64Z, o64E, o64K, o65, o65Z, o65E, o65K, p57⟩ := p57
            have f59 : fr S_Mod_readCellOfX_6 h h56 := fr_call f8 fh56 rfl
            have g66 : 0 ≤ o60Z ∧ o60Z ≤ 160 := inv_at hI58 o60E o60K.symm rfl
            have g67 : 0 ≤ o61Z ∧ o61Z ≤ 160 := inv_at hI58 o61E o61K.symm rfl
            have g68 := x_cS_s b (x_en b (x_en b p0))
            refine V_istore_n 3 [some (.ref 116), some (.int 6), some (.int z4), some (.int z55), none] d_Mod_readCellOf_79 rfl (by decide) rfl rfl ?_
            refine V_iload_n 1 d_Mod_readCellOf_80 rfl rfl ?_
            refine V_iconst 4 d_Mod_readCellOf_81 (by decide) ?_
            refine V_icmp_ne 89 tc_6 tc_4 d_Mod_readCellOf_82 (by decide) (fun c69 => ?_) (fun c69 => ?_)
            ·
              refine V_iload_n 1 d_Mod_readCellOf_89 rfl rfl ?_
              refine V_bipush 6 d_Mod_readCellOf_90 (by decide) ?_
              refine V_icmp_ne 100 tc_6 tc_6 d_Mod_readCellOf_92 (by decide) (fun c70 => ?_) (fun c70 => ?_)
              ·
                exact absurd c70 (by decide)
              ·
                refine V_bipush 32 d_Mod_readCellOf_95 (by decide) ?_
                refine V_goto 102 d_Mod_readCellOf_97 (by decide) ?_
                refine V_istore 4 [some (.ref 116), some (.int 6), some (.int z4), some (.int z55), some (.int 32)] d_Mod_readCellOf_102 (by decide) rfl rfl ?_
                refine V_aload_n 0 d_Mod_readCellOf_104 rfl rfl ?_
                refine V_getR fa_Mod_17 sk_116 rfl d_Mod_readCellOf_105 ?_
                refine V_iload d_Mod_readCellOf_108 rfl ?_
                refine V_iload_n 2 d_Mod_readCellOf_110 rfl rfl ?_
                refine V_iadd tc_32 z4E (by omega) d_Mod_readCellOf_111 (fun z71 z71e z71E => ?_)
                refine V_aload_n 0 d_Mod_readCellOf_112 rfl rfl ?_
                refine N_getK fa_Mod_102 sk_116 rfl d_Mod_readCellOf_113 o64K ?_
                refine V_if_ne 123 o64E d_Mod_readCellOf_116 (by decide) (fun c72 => ?_) (fun c72 => ?_)
                ·
                  refine V_aload_n 0 d_Mod_readCellOf_123 rfl rfl ?_
                  refine V_getR fa_Mod_17 sk_116 rfl d_Mod_readCellOf_124 ?_
                  refine V_iload d_Mod_readCellOf_127 rfl ?_
                  refine V_iload_n 2 d_Mod_readCellOf_129 rfl rfl ?_
                  refine V_iadd tc_32 z4E (by omega) d_Mod_readCellOf_130 (fun z73 z73e z73E => ?_)
                  refine N_iald sk_119 z73E (by omega) d_Mod_readCellOf_131 (fun z74 z74Z z74E z74e => ?_)
                  refine N_iast sk_119 z71E (by omega) d_Mod_readCellOf_132 (fun h75 eh75 => ?_)
                  have hI76 : Inv h75 := inv_full hI58 eh75 (st_lo (by omega))
                  have f77 : fr S_Mod_readCellOfX_6 h h75 := fr_put f59 eh75 rfl
                  exact V_vret rfl d_Mod_readCellOf_133 ⟨rfl, ⟨hI76, f77, o60, o60Z, o60E, (kn_ne eh75 o60K (by decide)), o61, o61Z, o61E, (kn_ne eh75 o61K (by decide)), o62, o62Z, o62E, (kn_ne eh75 o62K (by decide)), o63, o63Z, o63E, (kn_ne eh75 o63K (by decide)), o64, o64Z, o64E, (kn_ne eh75 o64K (by decide)), o65, o65Z, o65E, (kn_ne eh75 o65K (by decide)), ⟨Or.inl ⟨by omega, (show x_l3 b T p0 = (x_c4 (T 3 (x_vl b p0)), x_fr b p0) from by unfold x_l3; rw [x_sq_n (c := x_cN b p0 0 15) (by omega), x_sq_y (c := x_c4 (T 3 (x_vl b p0))) (by omega)]).trans (pq (by omega) (by omega))⟩, by omega, by omega, by omega⟩⟩⟩
                ·
                  exact absurd c72 (by omega)
            ·
              exact absurd c69 (by decide)
        ·
          exact absurd c53 (by decide)
      ·
        exact absurd c52 (by decide)
    ·
      exact absurd c51 (by decide)
  ·
    have g78 := x_cN_s b p0 0 15
    have g79 := x_c4_s (T 3 (x_vl b p0))
    have g80 := x_cN_s b (x_en b p0) 0 10
    replace p6 := And.intro (((p6.1.resolve_left (fun q => by omega)).resolve_left (fun q => by omega)).2.2.2.1.resolve_right (fun q => by omega)) p6.2
    refine V_iload_n 1 d_Mod_readCellOf_8 rfl rfl ?_
    refine V_iconst 5 d_Mod_readCellOf_9 (by decide) ?_
    refine V_icmp_ne 43 tc_6 tc_5 d_Mod_readCellOf_10 (by decide) (fun c81 => ?_) (fun c81 => ?_)
    ·
      refine V_aload_n 0 d_Mod_readCellOf_43 rfl rfl ?_
      refine V_iload_n 1 d_Mod_readCellOf_44 rfl rfl ?_
      refine V_iconst 4 d_Mod_readCellOf_45 (by decide) ?_
      refine V_icmp_ne 53 tc_6 tc_4 d_Mod_readCellOf_46 (by decide) (fun c82 => ?_) (fun c82 => ?_)
      ·
        refine V_iconst 0 d_Mod_readCellOf_53 (by decide) ?_
        refine V_iload_n 1 d_Mod_readCellOf_54 rfl rfl ?_
        refine V_iconst 4 d_Mod_readCellOf_55 (by decide) ?_
        refine V_icmp_ne 64 tc_6 tc_4 d_Mod_readCellOf_56 (by decide) (fun c83 => ?_) (fun c83 => ?_)
        ·
          refine V_iload_n 1 d_Mod_readCellOf_64 rfl rfl ?_
          refine V_bipush 6 d_Mod_readCellOf_65 (by decide) ?_
          refine V_icmp_ne 75 tc_6 tc_6 d_Mod_readCellOf_67 (by decide) (fun c84 => ?_) (fun c84 => ?_)
          ·
            exact absurd c84 (by decide)
          ·
            refine V_bipush 10 d_Mod_readCellOf_70 (by decide) ?_
            refine V_goto 76 d_Mod_readCellOf_72 (by decide) ?_
            refine N_callVI [.int 0, .int 10] [] cv_Mod_158 sk_116 rfl d_Mod_readCellOf_76 rfl (Nat.le_of_ble_eq_true rfl) (by decide) (by decide) (c_Mod_readNumberX h5 b (x_en b p0) hI7 0 0 tc_0 10 10 tc_10 s sZ sE (kn_call fh5 sK rfl) o9 o9Z o9E o9K o10 o10Z o10E o10K o11 o11Z o11E o11K o12 o12Z o12E o12K o13 o13Z o13E o13K o14 o14Z o14E o14K (TP_fr f8 (fun _ => rfl) hy0) (by omega) (Or.inl (by omega))) (fun z85 h86 z85Z z85E p87 => ?_)
            obtain ⟨hI88, fh86, o90, o90Z, o90E, o90K, o91, o91Z, o91E, o91K, o92, o92Z, o92E, o92K, o93, o93Z, o93E, o93K, o94, o94Z, o94E, o94K, o95, o95Z, o95E, o95K, p87⟩ := p87
            have f89 : fr S_Mod_readCellOfX_6 h h86 := fr_call f8 fh86 rfl
            have g96 : 0 ≤ o90Z ∧ o90Z ≤ 160 := inv_at hI88 o90E o90K.symm rfl
            have g97 : 0 ≤ o91Z ∧ o91Z ≤ 160 := inv_at hI88 o91E o91K.symm rfl
            have g98 := x_cS_s b (x_en b (x_en b p0))
            refine V_istore_n 3 [some (.ref 116), some (.int 6), some (.int z4), some (.int z85), none] d_Mod_readCellOf_79 rfl (by decide) rfl rfl ?_
            refine V_iload_n 1 d_Mod_readCellOf_80 rfl rfl ?_
            refine V_iconst 4 d_Mod_readCellOf_81 (by decide) ?_
            refine V_icmp_ne 89 tc_6 tc_4 d_Mod_readCellOf_82 (by decide) (fun c99 => ?_) (fun c99 => ?_)
            ·
              refine V_iload_n 1 d_Mod_readCellOf_89 rfl rfl ?_
              refine V_bipush 6 d_Mod_readCellOf_90 (by decide) ?_
              refine V_icmp_ne 100 tc_6 tc_6 d_Mod_readCellOf_92 (by decide) (fun c100 => ?_) (fun c100 => ?_)
              ·
                exact absurd c100 (by decide)
              ·
                refine V_bipush 32 d_Mod_readCellOf_95 (by decide) ?_
                refine V_goto 102 d_Mod_readCellOf_97 (by decide) ?_
                refine V_istore 4 [some (.ref 116), some (.int 6), some (.int z4), some (.int z85), some (.int 32)] d_Mod_readCellOf_102 (by decide) rfl rfl ?_
                refine V_aload_n 0 d_Mod_readCellOf_104 rfl rfl ?_
                refine V_getR fa_Mod_17 sk_116 rfl d_Mod_readCellOf_105 ?_
                refine V_iload d_Mod_readCellOf_108 rfl ?_
                refine V_iload_n 2 d_Mod_readCellOf_110 rfl rfl ?_
                refine V_iadd tc_32 z4E (by omega) d_Mod_readCellOf_111 (fun z101 z101e z101E => ?_)
                refine V_aload_n 0 d_Mod_readCellOf_112 rfl rfl ?_
                refine N_getK fa_Mod_102 sk_116 rfl d_Mod_readCellOf_113 o94K ?_
                refine V_if_ne 123 o94E d_Mod_readCellOf_116 (by decide) (fun c102 => ?_) (fun c102 => ?_)
                ·
                  refine V_aload_n 0 d_Mod_readCellOf_123 rfl rfl ?_
                  refine V_getR fa_Mod_17 sk_116 rfl d_Mod_readCellOf_124 ?_
                  refine V_iload d_Mod_readCellOf_127 rfl ?_
                  refine V_iload_n 2 d_Mod_readCellOf_129 rfl rfl ?_
                  refine V_iadd tc_32 z4E (by omega) d_Mod_readCellOf_130 (fun z103 z103e z103E => ?_)
                  refine N_iald sk_119 z103E (by omega) d_Mod_readCellOf_131 (fun z104 z104Z z104E z104e => ?_)
                  refine N_iast sk_119 z101E (by omega) d_Mod_readCellOf_132 (fun h105 eh105 => ?_)
                  have hI106 : Inv h105 := inv_full hI88 eh105 (st_lo (by omega))
                  have f107 : fr S_Mod_readCellOfX_6 h h105 := fr_put f89 eh105 rfl
                  exact V_vret rfl d_Mod_readCellOf_133 ⟨rfl, ⟨hI106, f107, o90, o90Z, o90E, (kn_ne eh105 o90K (by decide)), o91, o91Z, o91E, (kn_ne eh105 o91K (by decide)), o92, o92Z, o92E, (kn_ne eh105 o92K (by decide)), o93, o93Z, o93E, (kn_ne eh105 o93K (by decide)), o94, o94Z, o94E, (kn_ne eh105 o94K (by decide)), o95, o95Z, o95E, (kn_ne eh105 o95K (by decide)), ⟨Or.inl ⟨by omega, (show x_l3 b T p0 = (x_cN b (x_en b p0) 0 10, x_fr b (x_en b p0)) from by unfold x_l3; rw [x_sq_n (c := x_cN b p0 0 15) (by omega), x_sq_n (c := x_c4 (T 3 (x_vl b p0))) (by omega), x_sq_y (c := x_cN b (x_en b p0) 0 10) (by omega)]).trans (pq (by omega) (by omega))⟩, by omega, by omega, by omega⟩⟩⟩
                ·
                  exact absurd c102 (by omega)
            ·
              exact absurd c99 (by decide)
        ·
          exact absurd c83 (by decide)
      ·
        exact absurd c82 (by decide)
    ·
      exact absurd c81 (by decide)
  ·
    have g108 := x_cN_s b p0 0 15
    have g109 := x_c4_s (T 3 (x_vl b p0))
    have g110 := x_cN_s b (x_en b p0) 0 10
    obtain ⟨p61, p62, p63, p64, p6R⟩ := ((p6.1.resolve_left (fun q => by omega)).resolve_left (fun q => by omega))
    replace p6 := And.intro (p64.resolve_left (fun q => by omega)) p6.2
    clear p64
    refine V_iload_n 1 d_Mod_readCellOf_8 rfl rfl ?_
    refine V_iconst 5 d_Mod_readCellOf_9 (by decide) ?_
    refine V_icmp_ne 43 tc_6 tc_5 d_Mod_readCellOf_10 (by decide) (fun c111 => ?_) (fun c111 => ?_)
    ·
      refine V_aload_n 0 d_Mod_readCellOf_43 rfl rfl ?_
      refine V_iload_n 1 d_Mod_readCellOf_44 rfl rfl ?_
      refine V_iconst 4 d_Mod_readCellOf_45 (by decide) ?_
      refine V_icmp_ne 53 tc_6 tc_4 d_Mod_readCellOf_46 (by decide) (fun c112 => ?_) (fun c112 => ?_)
      ·
        refine V_iconst 0 d_Mod_readCellOf_53 (by decide) ?_
        refine V_iload_n 1 d_Mod_readCellOf_54 rfl rfl ?_
        refine V_iconst 4 d_Mod_readCellOf_55 (by decide) ?_
        refine V_icmp_ne 64 tc_6 tc_4 d_Mod_readCellOf_56 (by decide) (fun c113 => ?_) (fun c113 => ?_)
        ·
          refine V_iload_n 1 d_Mod_readCellOf_64 rfl rfl ?_
          refine V_bipush 6 d_Mod_readCellOf_65 (by decide) ?_
          refine V_icmp_ne 75 tc_6 tc_6 d_Mod_readCellOf_67 (by decide) (fun c114 => ?_) (fun c114 => ?_)
          ·
            exact absurd c114 (by decide)
          ·
            refine V_bipush 10 d_Mod_readCellOf_70 (by decide) ?_
            refine V_goto 76 d_Mod_readCellOf_72 (by decide) ?_
            refine N_callVI [.int 0, .int 10] [] cv_Mod_158 sk_116 rfl d_Mod_readCellOf_76 rfl (Nat.le_of_ble_eq_true rfl) (by decide) (by decide) (c_Mod_readNumberX h5 b (x_en b p0) hI7 0 0 tc_0 10 10 tc_10 s sZ sE (kn_call fh5 sK rfl) o9 o9Z o9E o9K o10 o10Z o10E o10K o11 o11Z o11E o11K o12 o12Z o12E o12K o13 o13Z o13E o13K o14 o14Z o14E o14K (TP_fr f8 (fun _ => rfl) hy0) (by omega) (Or.inr ⟨by omega, by omega, by omega, by omega, by omega, by omega, by omega, by omega, by omega, by omega, by omega⟩)) (fun z115 h116 z115Z z115E p117 => ?_)
            obtain ⟨hI118, fh116, o120, o120Z, o120E, o120K, o121, o121Z, o121E, o121K, o122, o122Z, o122E, o122K, o123, o123Z, o123E, o123K, o124, o124Z, o124E, o124K, o125, o125Z, o125E, o125K, p117⟩ := p117
            have f119 : fr S_Mod_readCellOfX_6 h h116 := fr_call f8 fh116 rfl
            have R126 : RM h116 (x_upT T 3 (x_vl b p0)) D := RM_fr fh116 rfl p6R
            have g127 : 0 ≤ o120Z ∧ o120Z ≤ 160 := inv_at hI118 o120E o120K.symm rfl
            have g128 : 0 ≤ o121Z ∧ o121Z ≤ 160 := inv_at hI118 o121E o121K.symm rfl
            rcases (by omega : o124Z ≠ 0 ∧ x_cN b (x_en b p0) 0 10 ≠ 0 ∨ o124Z ≠ 0 ∧ x_cN b (x_en b p0) 0 10 = 0 ∨ o124Z = 0) with c129 | c129 | c129
            ·
              have g130 := x_cS_s b (x_en b (x_en b p0))
              replace p117 := And.intro ((p117.1.resolve_left (fun q => by omega)).resolve_right (fun q => by omega)) p117.2
              refine V_istore_n 3 [some (.ref 116), some (.int 6), some (.int z4), some (.int z115), none] d_Mod_readCellOf_79 rfl (by decide) rfl rfl ?_
              refine V_iload_n 1 d_Mod_readCellOf_80 rfl rfl ?_
              refine V_iconst 4 d_Mod_readCellOf_81 (by decide) ?_
              refine V_icmp_ne 89 tc_6 tc_4 d_Mod_readCellOf_82 (by decide) (fun c131 => ?_) (fun c131 => ?_)
              ·
                refine V_iload_n 1 d_Mod_readCellOf_89 rfl rfl ?_
                refine V_bipush 6 d_Mod_readCellOf_90 (by decide) ?_
                refine V_icmp_ne 100 tc_6 tc_6 d_Mod_readCellOf_92 (by decide) (fun c132 => ?_) (fun c132 => ?_)
                ·
                  exact absurd c132 (by decide)
                ·
                  refine V_bipush 32 d_Mod_readCellOf_95 (by decide) ?_
                  refine V_goto 102 d_Mod_readCellOf_97 (by decide) ?_
                  refine V_istore 4 [some (.ref 116), some (.int 6), some (.int z4), some (.int z115), some (.int 32)] d_Mod_readCellOf_102 (by decide) rfl rfl ?_
                  refine V_aload_n 0 d_Mod_readCellOf_104 rfl rfl ?_
                  refine V_getR fa_Mod_17 sk_116 rfl d_Mod_readCellOf_105 ?_
                  refine V_iload d_Mod_readCellOf_108 rfl ?_
                  refine V_iload_n 2 d_Mod_readCellOf_110 rfl rfl ?_
                  refine V_iadd tc_32 z4E (by omega) d_Mod_readCellOf_111 (fun z133 z133e z133E => ?_)
                  refine V_aload_n 0 d_Mod_readCellOf_112 rfl rfl ?_
                  refine N_getK fa_Mod_102 sk_116 rfl d_Mod_readCellOf_113 o124K ?_
                  refine V_if_ne 123 o124E d_Mod_readCellOf_116 (by decide) (fun c134 => ?_) (fun c134 => ?_)
                  ·
                    refine V_aload_n 0 d_Mod_readCellOf_123 rfl rfl ?_
                    refine V_getR fa_Mod_17 sk_116 rfl d_Mod_readCellOf_124 ?_
                    refine V_iload d_Mod_readCellOf_127 rfl ?_
                    refine V_iload_n 2 d_Mod_readCellOf_129 rfl rfl ?_
                    refine V_iadd tc_32 z4E (by omega) d_Mod_readCellOf_130 (fun z135 z135e z135E => ?_)
                    refine N_iald sk_119 z135E (by omega) d_Mod_readCellOf_131 (fun z136 z136Z z136E z136e => ?_)
                    refine N_iast sk_119 z133E (by omega) d_Mod_readCellOf_132 (fun h137 eh137 => ?_)
                    have hI138 : Inv h137 := inv_full hI118 eh137 (st_lo (by omega))
                    have f139 : fr S_Mod_readCellOfX_6 h h137 := fr_put f119 eh137 rfl
                    exact V_vret rfl d_Mod_readCellOf_133 ⟨rfl, ⟨hI138, f139, o120, o120Z, o120E, (kn_ne eh137 o120K (by decide)), o121, o121Z, o121E, (kn_ne eh137 o121K (by decide)), o122, o122Z, o122E, (kn_ne eh137 o122K (by decide)), o123, o123Z, o123E, (kn_ne eh137 o123K (by decide)), o124, o124Z, o124E, (kn_ne eh137 o124K (by decide)), o125, o125Z, o125E, (kn_ne eh137 o125K (by decide)), ⟨Or.inl ⟨by omega, (show x_l3 b T p0 = (x_cN b (x_en b p0) 0 10, x_fr b (x_en b p0)) from by unfold x_l3; rw [x_sq_n (c := x_cN b p0 0 15) (by omega), x_sq_n (c := x_c4 (T 3 (x_vl b p0))) (by omega), x_sq_y (c := x_cN b (x_en b p0) 0 10) (by omega)]).trans (pq (by omega) (by omega))⟩, by omega, by omega, by omega⟩⟩⟩
                  ·
                    exact absurd c134 (by omega)
              ·
                exact absurd c131 (by decide)
            ·
              have g140 := x_cS_s b (x_en b (x_en b p0))
              replace p117 := And.intro ((p117.1.resolve_left (fun q => by omega)).resolve_left (fun q => by omega)).2.1 (And.intro ((p117.1.resolve_left (fun q => by omega)).resolve_left (fun q => by omega)).2.2.1 (And.intro (((p117.1.resolve_left (fun q => by omega)).resolve_left (fun q => by omega)).2.2.2.resolve_right (fun q => by omega)) p117.2))
              refine V_istore_n 3 [some (.ref 116), some (.int 6), some (.int z4), some (.int z115), none] d_Mod_readCellOf_79 rfl (by decide) rfl rfl ?_
              refine V_iload_n 1 d_Mod_readCellOf_80 rfl rfl ?_
              refine V_iconst 4 d_Mod_readCellOf_81 (by decide) ?_
              refine V_icmp_ne 89 tc_6 tc_4 d_Mod_readCellOf_82 (by decide) (fun c141 => ?_) (fun c141 => ?_)
              ·
                refine V_iload_n 1 d_Mod_readCellOf_89 rfl rfl ?_
                refine V_bipush 6 d_Mod_readCellOf_90 (by decide) ?_
                refine V_icmp_ne 100 tc_6 tc_6 d_Mod_readCellOf_92 (by decide) (fun c142 => ?_) (fun c142 => ?_)
                ·
                  exact absurd c142 (by decide)
                ·
                  refine V_bipush 32 d_Mod_readCellOf_95 (by decide) ?_
                  refine V_goto 102 d_Mod_readCellOf_97 (by decide) ?_
                  refine V_istore 4 [some (.ref 116), some (.int 6), some (.int z4), some (.int z115), some (.int 32)] d_Mod_readCellOf_102 (by decide) rfl rfl ?_
                  refine V_aload_n 0 d_Mod_readCellOf_104 rfl rfl ?_
                  refine V_getR fa_Mod_17 sk_116 rfl d_Mod_readCellOf_105 ?_
                  refine V_iload d_Mod_readCellOf_108 rfl ?_
                  refine V_iload_n 2 d_Mod_readCellOf_110 rfl rfl ?_
                  refine V_iadd tc_32 z4E (by omega) d_Mod_readCellOf_111 (fun z143 z143e z143E => ?_)
                  refine V_aload_n 0 d_Mod_readCellOf_112 rfl rfl ?_
                  refine N_getK fa_Mod_102 sk_116 rfl d_Mod_readCellOf_113 o124K ?_
                  refine V_if_ne 123 o124E d_Mod_readCellOf_116 (by decide) (fun c144 => ?_) (fun c144 => ?_)
                  ·
                    refine V_aload_n 0 d_Mod_readCellOf_123 rfl rfl ?_
                    refine V_getR fa_Mod_17 sk_116 rfl d_Mod_readCellOf_124 ?_
                    refine V_iload d_Mod_readCellOf_127 rfl ?_
                    refine V_iload_n 2 d_Mod_readCellOf_129 rfl rfl ?_
                    refine V_iadd tc_32 z4E (by omega) d_Mod_readCellOf_130 (fun z145 z145e z145E => ?_)
                    refine N_iald sk_119 z145E (by omega) d_Mod_readCellOf_131 (fun z146 z146Z z146E z146e => ?_)
                    refine N_iast sk_119 z143E (by omega) d_Mod_readCellOf_132 (fun h147 eh147 => ?_)
                    have hI148 : Inv h147 := inv_full hI118 eh147 (st_lo (by omega))
                    have f149 : fr S_Mod_readCellOfX_6 h h147 := fr_put f119 eh147 rfl
                    exact V_vret rfl d_Mod_readCellOf_133 ⟨rfl, ⟨hI148, f149, o120, o120Z, o120E, (kn_ne eh147 o120K (by decide)), o121, o121Z, o121E, (kn_ne eh147 o121K (by decide)), o122, o122Z, o122E, (kn_ne eh147 o122K (by decide)), o123, o123Z, o123E, (kn_ne eh147 o123K (by decide)), o124, o124Z, o124E, (kn_ne eh147 o124K (by decide)), o125, o125Z, o125E, (kn_ne eh147 o125K (by decide)), ⟨Or.inl ⟨by omega, (show x_l3 b T p0 = (x_cS b (x_en b (x_en b p0)), x_fr b (x_en b (x_en b p0))) from by unfold x_l3; rw [x_sq_n (c := x_cN b p0 0 15) (by omega), x_sq_n (c := x_c4 (T 3 (x_vl b p0))) (by omega), x_sq_n (c := x_cN b (x_en b p0) 0 10) (by omega), x_sq_y (c := x_cS b (x_en b (x_en b p0))) (by omega)]).trans (pq (by omega) (by omega))⟩, by omega, by omega, by omega⟩⟩⟩
                  ·
                    exact absurd c144 (by omega)
              ·
                exact absurd c141 (by decide)
            ·
              have g150 := x_cS_s b (x_en b (x_en b p0))
              replace p117 := And.intro ((p117.1.resolve_left (fun q => by omega)).resolve_left (fun q => by omega)).2.1 (And.intro ((p117.1.resolve_left (fun q => by omega)).resolve_left (fun q => by omega)).2.2.1 (And.intro (((p117.1.resolve_left (fun q => by omega)).resolve_left (fun q => by omega)).2.2.2.resolve_left (fun q => by omega)) p117.2))
              refine V_istore_n 3 [some (.ref 116), some (.int 6), some (.int z4), some (.int z115), none] d_Mod_readCellOf_79 rfl (by decide) rfl rfl ?_
              refine V_iload_n 1 d_Mod_readCellOf_80 rfl rfl ?_
              refine V_iconst 4 d_Mod_readCellOf_81 (by decide) ?_
              refine V_icmp_ne 89 tc_6 tc_4 d_Mod_readCellOf_82 (by decide) (fun c151 => ?_) (fun c151 => ?_)
              ·
                refine V_iload_n 1 d_Mod_readCellOf_89 rfl rfl ?_
                refine V_bipush 6 d_Mod_readCellOf_90 (by decide) ?_
                refine V_icmp_ne 100 tc_6 tc_6 d_Mod_readCellOf_92 (by decide) (fun c152 => ?_) (fun c152 => ?_)
                ·
                  exact absurd c152 (by decide)
                ·
                  refine V_bipush 32 d_Mod_readCellOf_95 (by decide) ?_
                  refine V_goto 102 d_Mod_readCellOf_97 (by decide) ?_
                  refine V_istore 4 [some (.ref 116), some (.int 6), some (.int z4), some (.int z115), some (.int 32)] d_Mod_readCellOf_102 (by decide) rfl rfl ?_
                  refine V_aload_n 0 d_Mod_readCellOf_104 rfl rfl ?_
                  refine V_getR fa_Mod_17 sk_116 rfl d_Mod_readCellOf_105 ?_
                  refine V_iload d_Mod_readCellOf_108 rfl ?_
                  refine V_iload_n 2 d_Mod_readCellOf_110 rfl rfl ?_
                  refine V_iadd tc_32 z4E (by omega) d_Mod_readCellOf_111 (fun z153 z153e z153E => ?_)
                  refine V_aload_n 0 d_Mod_readCellOf_112 rfl rfl ?_
                  refine N_getK fa_Mod_102 sk_116 rfl d_Mod_readCellOf_113 o124K ?_
                  refine V_if_ne 123 o124E d_Mod_readCellOf_116 (by decide) (fun c154 => ?_) (fun c154 => ?_)
                  ·
                    exact absurd c154 (by omega)
                  ·
                    refine V_iload_n 3 d_Mod_readCellOf_119 rfl rfl ?_
                    refine V_goto 132 d_Mod_readCellOf_120 (by decide) ?_
                    refine N_iast sk_119 z153E (by omega) d_Mod_readCellOf_132 (fun h155 eh155 => ?_)
                    have hI156 : Inv h155 := inv_full hI118 eh155 (st_lo (by omega))
                    have f157 : fr S_Mod_readCellOfX_6 h h155 := fr_put f119 eh155 rfl
                    have R158 : RM h155 (x_upT T 3 (x_vl b p0)) (x_up D (32 + (x_vl b p0)) (x_vl b (x_en b p0))) := RM_put R126 eh155 (Or.inl ⟨rfl, by omega, rfl⟩) (z115E.trans (by omega)) (by omega)
                    exact V_vret rfl d_Mod_readCellOf_133 ⟨rfl, ⟨hI156, f157, o120, o120Z, o120E, (kn_ne eh155 o120K (by decide)), o121, o121Z, o121E, (kn_ne eh155 o121K (by decide)), o122, o122Z, o122E, (kn_ne eh155 o122K (by decide)), o123, o123Z, o123E, (kn_ne eh155 o123K (by decide)), o124, o124Z, o124E, (kn_ne eh155 o124K (by decide)), o125, o125Z, o125E, (kn_ne eh155 o125K (by decide)), ⟨Or.inr ⟨by omega, by unfold x_l3; rw [x_sq_n (c := x_cN b p0 0 15) (by omega), x_sq_n (c := x_c4 (T 3 (x_vl b p0))) (by omega), x_sq_n (c := x_cN b (x_en b p0) 0 10) (by omega)], ⟨by omega, by omega, by omega, by omega, by omega, by omega, by omega, by omega, by omega, by omega, by omega⟩, R158⟩, by omega, by omega, by omega⟩⟩⟩
              ·
                exact absurd c151 (by decide)
        ·
          exact absurd c113 (by decide)
      ·
        exact absurd c112 (by decide)
    ·
      exact absurd c111 (by decide)
def S_Mod_readCellOfX_7 : List (Nat × Option Nat) := [(116, some 16), (116, some 17), (116, some 18), (116, some 19), (116, some 20), (116, some 21), (119, none), (120, some 3), (116, some 13)]
abbrev q_Mod_readCellOfX_7 (h : Hp) (b : Int → Int) (T : Nat → Int → Int) (D : Nat → Int) (p0 : Int) (s : Int32) (sZ : Int) (p : Int32) (pZ : Int) (g : Int32) (gZ : Int) (k : Int32) (kZ : Int) (v : Int32) (vZ : Int) (w : Int32) (wZ : Int) (a : Int32) (aZ : Int) (z : Int32) (zZ : Int) (i : Int32) (iZ : Int) : Option Value → Hp → Prop := pVd (fun h' => Inv h' ∧ fr S_Mod_readCellOfX_7 h h' ∧ ∃ (q : Int32) (qZ : Int), q.toInt = qZ ∧ h'.1 116 16 = q ∧ ∃ (f : Int32) (fZ : Int), f.toInt = fZ ∧ h'.1 116 17 = f ∧ ∃ (m : Int32) (mZ : Int), m.toInt = mZ ∧ h'.1 116 18 = m ∧ ∃ (x : Int32) (xZ : Int), x.toInt = xZ ∧ h'.1 116 19 = x ∧ ∃ (u : Int32) (uZ : Int), u.toInt = uZ ∧ h'.1 116 20 = u ∧ ∃ (y : Int32) (yZ : Int), y.toInt = yZ ∧ h'.1 116 21 = y ∧ ((uZ ≠ 0 ∧ x_l4 b T p0 = (uZ, yZ) ∨ uZ = 0 ∧ x_l4 b T p0 = x_sq (x_cS b (x_en b (x_en b p0))) (x_fr b (x_en b (x_en b p0))) (0, x_en b (x_en b (x_en b p0))) ∧ (fZ = x_fr b (x_en b (x_en b p0)) ∧ mZ = x_kd b (x_en b (x_en b p0)) ∧ mZ ≠ 4 ∧ 0 ≤ mZ ∧ mZ ≤ 3 ∧ qZ = x_en b (x_en b (x_en b p0)) ∧ (mZ ≠ 2 ∨ xZ = x_vl b (x_en b (x_en b p0)) ∧ 0 ≤ xZ ∧ xZ ≤ 99) ∧ (x_en b (x_en b p0)) ≤ fZ ∧ fZ ≤ qZ ∧ qZ ≤ sZ ∧ (mZ = 0 ∨ fZ < qZ)) ∧ RM h' (x_upT T 4 (x_vl b p0)) (x_up D (48 + (x_vl b p0)) (x_vl b (x_en b p0)))) ∧ 0 ≤ qZ ∧ qZ ≤ sZ ∧ 0 ≤ uZ))
set_option maxRecDepth 100000 in
theorem c_Mod_readCellOfX_7 (h : Hp) (b : Int → Int) (T : Nat → Int → Int) (D : Nat → Int) (p0 : Int) (hI : Inv h) (s : Int32) (sZ : Int) (sE : s.toInt = sZ) (sK : h.1 116 15 = s) (p : Int32) (pZ : Int) (pE : p.toInt = pZ) (pK : h.1 116 16 = p) (g : Int32) (gZ : Int) (gE : g.toInt = gZ) (gK : h.1 116 17 = g) (k : Int32) (kZ : Int) (kE : k.toInt = kZ) (kK : h.1 116 18 = k) (v : Int32) (vZ : Int) (vE : v.toInt = vZ) (vK : h.1 116 19 = v) (w : Int32) (wZ : Int) (wE : w.toInt = wZ) (wK : h.1 116 20 = w) (a : Int32) (aZ : Int) (aE : a.toInt = aZ) (aK : h.1 116 21 = a) (z : Int32) (zZ : Int) (zE : z.toInt = zZ) (zK : h.1 120 3 = z) (i : Int32) (iZ : Int) (iE : i.toInt = iZ) (iK : h.1 116 13 = i) (hy0 : TP h 121 sZ b) (hy1 : 0 ≤ pZ ∧ pZ ≤ sZ ∧ wZ = 0) (hy2 : gZ = x_fr b p0 ∧ kZ = x_kd b p0 ∧ kZ ≠ 4 ∧ 0 ≤ kZ ∧ kZ ≤ 3 ∧ pZ = x_en b p0 ∧ (kZ ≠ 2 ∨ vZ = x_vl b p0 ∧ 0 ≤ vZ ∧ vZ ≤ 99) ∧ p0 ≤ gZ ∧ gZ ≤ pZ ∧ pZ ≤ sZ ∧ (kZ = 0 ∨ gZ < pZ)) (hy3 : RM h T D) : Ct y_Mod_readCellOf b_Mod_readCellOf 5 none 3 70 [.ref 116, .int 7] h (q_Mod_readCellOfX_7 h b T D p0 s sZ p pZ g gZ k kZ v vZ w wZ a aZ z zZ i iZ) := by
  refine ct_ow R_Mod [some (.ref 116), some (.int 7), none, none, none] rfl (by decide) rfl (Nat.le_of_ble_eq_true rfl) ?_
  have f0 : fr S_Mod_readCellOfX_7 h h := fr_rf
  have g1 : 0 ≤ sZ ∧ sZ ≤ 160 := inv_at hI sE sK.symm rfl
  have g2 : 0 ≤ pZ ∧ pZ ≤ 160 := inv_at hI pE pK.symm rfl
  have g3 : 0 ≤ gZ ∧ gZ ≤ 160 := inv_at hI gE gK.symm rfl
  refine V_aload_n 0 d_Mod_readCellOf_0 rfl rfl ?_
  refine V_iload_n 1 d_Mod_readCellOf_1 rfl rfl ?_
  refine V_bipush 15 d_Mod_readCellOf_2 (by decide) ?_
  refine N_callVI [.int 7, .int 15] [] cv_Mod_161 sk_116 rfl d_Mod_readCellOf_4 rfl (Nat.le_of_ble_eq_true rfl) (by decide) (by decide) (c_Mod_readFreshX_7 h b T D p0 hI s sZ sE sK p pZ pE pK g gZ gE gK k kZ kE kK v vZ vE vK w wZ wE wK a aZ aE aK z zZ zE zK i iZ iE iK (TP_fr f0 (fun _ => rfl) hy0) (by omega) ⟨by omega, by omega, by omega, by omega, by omega, by omega, by omega, by omega, by omega, by omega, by omega⟩ hy3) (fun z4 h5 z4Z z4E p6 => ?_)
  obtain ⟨hI7, fh5, o9, o9Z, o9E, o9K, o10, o10Z, o10E, o10K, o11, o11Z, o11E, o11K, o12, o12Z, o12E, o12K, o13, o13Z, o13E, o13K, o14, o14Z, o14E, o14K, p6⟩ := p6
  have f8 : fr S_Mod_readCellOfX_7 h h5 := fr_call f0 fh5 rfl
  have g15 : 0 ≤ o9Z ∧ o9Z ≤ 160 := inv_at hI7 o9E o9K.symm rfl
  have g16 : 0 ≤ o10Z ∧ o10Z ≤ 160 := inv_at hI7 o10E o10K.symm rfl
  refine V_istore_n 2 [some (.ref 116), some (.int 7), some (.int z4), none, none] d_Mod_readCellOf_7 rfl (by decide) rfl rfl ?_
  rcases (by omega : o13Z ≠ 0 ∧ x_cN b p0 0 15 ≠ 0 ∨ o13Z ≠ 0 ∧ x_cN b p0 0 15 = 0 ∧ x_c4 (T 4 (x_vl b p0)) ≠ 0 ∨ o13Z ≠ 0 ∧ x_cN b p0 0 15 = 0 ∧ x_c4 (T 4 (x_vl b p0)) = 0 ∨ o13Z = 0) with c17 | c17 | c17 | c17
  ·
    have g18 := x_cN_s b p0 0 15
    have g19 := x_c4_s (T 4 (x_vl b p0))
    have g20 := x_cN_s b (x_en b p0) 0 3
    replace p6 := And.intro (p6.1.resolve_right (fun q => by omega)) p6.2
    refine V_iload_n 1 d_Mod_readCellOf_8 rfl rfl ?_
    refine V_iconst 5 d_Mod_readCellOf_9 (by decide) ?_
    refine V_icmp_ne 43 tc_7 tc_5 d_Mod_readCellOf_10 (by decide) (fun c21 => ?_) (fun c21 => ?_)
    ·
      refine V_aload_n 0 d_Mod_readCellOf_43 rfl rfl ?_
      refine V_iload_n 1 d_Mod_readCellOf_44 rfl rfl ?_
      refine V_iconst 4 d_Mod_readCellOf_45 (by decide) ?_
      refine V_icmp_ne 53 tc_7 tc_4 d_Mod_readCellOf_46 (by decide) (fun c22 => ?_) (fun c22 => ?_)
      ·
        refine V_iconst 0 d_Mod_readCellOf_53 (by decide) ?_
        refine V_iload_n 1 d_Mod_readCellOf_54 rfl rfl ?_
        refine V_iconst 4 d_Mod_readCellOf_55 (by decide) ?_
        refine V_icmp_ne 64 tc_7 tc_4 d_Mod_readCellOf_56 (by decide) (fun c23 => ?_) (fun c23 => ?_)
        ·
          refine V_iload_n 1 d_Mod_readCellOf_64 rfl rfl ?_
          refine V_bipush 6 d_Mod_readCellOf_65 (by decide) ?_
          refine V_icmp_ne 75 tc_7 tc_6 d_Mod_readCellOf_67 (by decide) (fun c24 => ?_) (fun c24 => ?_)
          ·
            refine V_iconst 3 d_Mod_readCellOf_75 (by decide) ?_
            refine N_callVI [.int 0, .int 3] [] cv_Mod_158 sk_116 rfl d_Mod_readCellOf_76 rfl (Nat.le_of_ble_eq_true rfl) (by decide) (by decide) (c_Mod_readNumberX h5 b (x_en b p0) hI7 0 0 tc_0 3 3 tc_3 s sZ sE (kn_call fh5 sK rfl) o9 o9Z o9E o9K o10 o10Z o10E o10K o11 o11Z o11E o11K o12 o12Z o12E o12K o13 o13Z o13E o13K o14 o14Z o14E o14K (TP_fr f8 (fun _ => rfl) hy0) (by omega) (Or.inl (by omega))) (fun z25 h26 z25Z z25E p27 => ?_)
            obtain ⟨hI28, fh26, o30, o30Z, o30E, o30K, o31, o31Z, o31E, o31K, o32, o32Z, o32E, o32K, o33, o33Z, o33E, o33K, o34, o34Z, o34E, o34K, o35, o35Z, o35E, o35K, p27⟩ := p27
            have f29 : fr S_Mod_readCellOfX_7 h h26 := fr_call f8 fh26 rfl
            have g36 : 0 ≤ o30Z ∧ o30Z ≤ 160 := inv_at hI28 o30E o30K.symm rfl
            have g37 : 0 ≤ o31Z ∧ o31Z ≤ 160 := inv_at hI28 o31E o31K.symm rfl
            have g38 := x_cS_s b (x_en b (x_en b p0))
            refine V_istore_n 3 [some (.ref 116), some (.int 7), some (.int z4), some (.int z25), none] d_Mod_readCellOf_79 rfl (by decide) rfl rfl ?_
            refine V_iload_n 1 d_Mod_readCellOf_80 rfl rfl ?_
            refine V_iconst 4 d_Mod_readCellOf_81 (by decide) ?_
            refine V_icmp_ne 89 tc_7 tc_4 d_Mod_readCellOf_82 (by decide) (fun c39 => ?_) (fun c39 => ?_)
            ·
              refine V_iload_n 1 d_Mod_readCellOf_89 rfl rfl ?_
              refine V_bipush 6 d_Mod_readCellOf_90 (by decide) ?_
              refine V_icmp_ne 100 tc_7 tc_6 d_Mod_readCellOf_92 (by decide) (fun c40 => ?_) (fun c40 => ?_)
              ·
                refine V_bipush 48 d_Mod_readCellOf_100 (by decide) ?_
                refine V_istore 4 [some (.ref 116), some (.int 7), some (.int z4), some (.int z25), some (.int 48)] d_Mod_readCellOf_102 (by decide) rfl rfl ?_
                refine V_aload_n 0 d_Mod_readCellOf_104 rfl rfl ?_
                refine V_getR fa_Mod_17 sk_116 rfl d_Mod_readCellOf_105 ?_
                refine V_iload d_Mod_readCellOf_108 rfl ?_
                refine V_iload_n 2 d_Mod_readCellOf_110 rfl rfl ?_
                refine V_iadd tc_48 z4E (by omega) d_Mod_readCellOf_111 (fun z41 z41e z41E => ?_)
                refine V_aload_n 0 d_Mod_readCellOf_112 rfl rfl ?_
                refine N_getK fa_Mod_102 sk_116 rfl d_Mod_readCellOf_113 o34K ?_
                refine V_if_ne 123 o34E d_Mod_readCellOf_116 (by decide) (fun c42 => ?_) (fun c42 => ?_)
                ·
                  refine V_aload_n 0 d_Mod_readCellOf_123 rfl rfl ?_
                  refine V_getR fa_Mod_17 sk_116 rfl d_Mod_readCellOf_124 ?_
                  refine V_iload d_Mod_readCellOf_127 rfl ?_
                  refine V_iload_n 2 d_Mod_readCellOf_129 rfl rfl ?_
                  refine V_iadd tc_48 z4E (by omega) d_Mod_readCellOf_130 (fun z43 z43e z43E => ?_)
                  refine N_iald sk_119 z43E (by omega) d_Mod_readCellOf_131 (fun z44 z44Z z44E z44e => ?_)
                  refine N_iast sk_119 z41E (by omega) d_Mod_readCellOf_132 (fun h45 eh45 => ?_)
                  have hI46 : Inv h45 := inv_full hI28 eh45 (st_lo (by omega))
                  have f47 : fr S_Mod_readCellOfX_7 h h45 := fr_put f29 eh45 rfl
                  exact V_vret rfl d_Mod_readCellOf_133 ⟨rfl, ⟨hI46, f47, o30, o30Z, o30E, (kn_ne eh45 o30K (by decide)), o31, o31Z, o31E, (kn_ne eh45 o31K (by decide)), o32, o32Z, o32E, (kn_ne eh45 o32K (by decide)), o33, o33Z, o33E, (kn_ne eh45 o33K (by decide)), o34, o34Z, o34E, (kn_ne eh45 o34K (by decide)), o35, o35Z, o35E, (kn_ne eh45 o35K (by decide)), ⟨Or.inl ⟨by omega, (show x_l4 b T p0 = (x_cN b p0 0 15, x_fr b p0) from by unfold x_l4; rw [x_sq_y (c := x_cN b p0 0 15) (by omega)]).trans (pq (by omega) (by omega))⟩, by omega, by omega, by omega⟩⟩⟩
                ·
                  exact absurd c42 (by omega)
              ·
                exact absurd c40 (by decide)
            ·
              exact absurd c39 (by decide)
          ·
            exact absurd c24 (by decide)
        ·
          exact absurd c23 (by decide)
      ·
        exact absurd c22 (by decide)
    ·
      exact absurd c21 (by decide)
  ·
    have g48 := x_cN_s b p0 0 15
    have g49 := x_c4_s (T 4 (x_vl b p0))
    have g50 := x_cN_s b (x_en b p0) 0 3
    replace p6 := And.intro ((p6.1.resolve_left (fun q => by omega)).resolve_right (fun q => by omega)) p6.2
    refine V_iload_n 1 d_Mod_readCellOf_8 rfl rfl ?_
    refine V_iconst 5 d_Mod_readCellOf_9 (by decide) ?_
    refine V_icmp_ne 43 tc_7 tc_5 d_Mod_readCellOf_10 (by decide) (fun c51 => ?_) (fun c51 => ?_)
    ·
      refine V_aload_n 0 d_Mod_readCellOf_43 rfl rfl ?_
      refine V_iload_n 1 d_Mod_readCellOf_44 rfl rfl ?_
      refine V_iconst 4 d_Mod_readCellOf_45 (by decide) ?_
      refine V_icmp_ne 53 tc_7 tc_4 d_Mod_readCellOf_46 (by decide) (fun c52 => ?_) (fun c52 => ?_)
      ·
        refine V_iconst 0 d_Mod_readCellOf_53 (by decide) ?_
        refine V_iload_n 1 d_Mod_readCellOf_54 rfl rfl ?_
        refine V_iconst 4 d_Mod_readCellOf_55 (by decide) ?_
        refine V_icmp_ne 64 tc_7 tc_4 d_Mod_readCellOf_56 (by decide) (fun c53 => ?_) (fun c53 => ?_)
        ·
          refine V_iload_n 1 d_Mod_readCellOf_64 rfl rfl ?_
          refine V_bipush 6 d_Mod_readCellOf_65 (by decide) ?_
          refine V_icmp_ne 75 tc_7 tc_6 d_Mod_readCellOf_67 (by decide) (fun c54 => ?_) (fun c54 => ?_)
          ·
            refine V_iconst 3 d_Mod_readCellOf_75 (by decide) ?_
            refine N_callVI [.int 0, .int 3] [] cv_Mod_158 sk_116 rfl d_Mod_readCellOf_76 rfl (Nat.le_of_ble_eq_true rfl) (by decide) (by decide) (c_Mod_readNumberX h5 b (x_en b p0) hI7 0 0 tc_0 3 3 tc_3 s sZ sE (kn_call fh5 sK rfl) o9 o9Z o9E o9K o10 o10Z o10E o10K o11 o11Z o11E o11K o12 o12Z o12E o12K o13 o13Z o13E o13K o14 o14Z o14E o14K (TP_fr f8 (fun _ => rfl) hy0) (by omega) (Or.inl (by omega))) (fun z55 h56 z55Z z55E p57 => ?_)
            obtain ⟨hI58, fh56, o60, o60Z, o60E, o60K, o61, o61Z, o61E, o61K, o62, o62Z, o62E, o62K, o63, o63Z, o63E, o63K, o64, o64Z, o64E, o64K, o65, o65Z, o65E, o65K, p57⟩ := p57
            have f59 : fr S_Mod_readCellOfX_7 h h56 := fr_call f8 fh56 rfl
            have g66 : 0 ≤ o60Z ∧ o60Z ≤ 160 := inv_at hI58 o60E o60K.symm rfl
            have g67 : 0 ≤ o61Z ∧ o61Z ≤ 160 := inv_at hI58 o61E o61K.symm rfl
            have g68 := x_cS_s b (x_en b (x_en b p0))
            refine V_istore_n 3 [some (.ref 116), some (.int 7), some (.int z4), some (.int z55), none] d_Mod_readCellOf_79 rfl (by decide) rfl rfl ?_
            refine V_iload_n 1 d_Mod_readCellOf_80 rfl rfl ?_
            refine V_iconst 4 d_Mod_readCellOf_81 (by decide) ?_
            refine V_icmp_ne 89 tc_7 tc_4 d_Mod_readCellOf_82 (by decide) (fun c69 => ?_) (fun c69 => ?_)
            ·
              refine V_iload_n 1 d_Mod_readCellOf_89 rfl rfl ?_
              refine V_bipush 6 d_Mod_readCellOf_90 (by decide) ?_
              refine V_icmp_ne 100 tc_7 tc_6 d_Mod_readCellOf_92 (by decide) (fun c70 => ?_) (fun c70 => ?_)
              ·
                refine V_bipush 48 d_Mod_readCellOf_100 (by decide) ?_
                refine V_istore 4 [some (.ref 116), some (.int 7), some (.int z4), some (.int z55), some (.int 48)] d_Mod_readCellOf_102 (by decide) rfl rfl ?_
                refine V_aload_n 0 d_Mod_readCellOf_104 rfl rfl ?_
                refine V_getR fa_Mod_17 sk_116 rfl d_Mod_readCellOf_105 ?_
                refine V_iload d_Mod_readCellOf_108 rfl ?_
                refine V_iload_n 2 d_Mod_readCellOf_110 rfl rfl ?_
                refine V_iadd tc_48 z4E (by omega) d_Mod_readCellOf_111 (fun z71 z71e z71E => ?_)
                refine V_aload_n 0 d_Mod_readCellOf_112 rfl rfl ?_
                refine N_getK fa_Mod_102 sk_116 rfl d_Mod_readCellOf_113 o64K ?_
                refine V_if_ne 123 o64E d_Mod_readCellOf_116 (by decide) (fun c72 => ?_) (fun c72 => ?_)
                ·
                  refine V_aload_n 0 d_Mod_readCellOf_123 rfl rfl ?_
                  refine V_getR fa_Mod_17 sk_116 rfl d_Mod_readCellOf_124 ?_
                  refine V_iload d_Mod_readCellOf_127 rfl ?_
                  refine V_iload_n 2 d_Mod_readCellOf_129 rfl rfl ?_
                  refine V_iadd tc_48 z4E (by omega) d_Mod_readCellOf_130 (fun z73 z73e z73E => ?_)
                  refine N_iald sk_119 z73E (by omega) d_Mod_readCellOf_131 (fun z74 z74Z z74E z74e => ?_)
                  refine N_iast sk_119 z71E (by omega) d_Mod_readCellOf_132 (fun h75 eh75 => ?_)
                  have hI76 : Inv h75 := inv_full hI58 eh75 (st_lo (by omega))
                  have f77 : fr S_Mod_readCellOfX_7 h h75 := fr_put f59 eh75 rfl
                  exact V_vret rfl d_Mod_readCellOf_133 ⟨rfl, ⟨hI76, f77, o60, o60Z, o60E, (kn_ne eh75 o60K (by decide)), o61, o61Z, o61E, (kn_ne eh75 o61K (by decide)), o62, o62Z, o62E, (kn_ne eh75 o62K (by decide)), o63, o63Z, o63E, (kn_ne eh75 o63K (by decide)), o64, o64Z, o64E, (kn_ne eh75 o64K (by decide)), o65, o65Z, o65E, (kn_ne eh75 o65K (by decide)), ⟨Or.inl ⟨by omega, (show x_l4 b T p0 = (x_c4 (T 4 (x_vl b p0)), x_fr b p0) from by unfold x_l4; rw [x_sq_n (c := x_cN b p0 0 15) (by omega), x_sq_y (c := x_c4 (T 4 (x_vl b p0))) (by omega)]).trans (pq (by omega) (by omega))⟩, by omega, by omega, by omega⟩⟩⟩
                ·
                  exact absurd c72 (by omega)
              ·
                exact absurd c70 (by decide)
            ·
              exact absurd c69 (by decide)
          ·
            exact absurd c54 (by decide)
        ·
          exact absurd c53 (by decide)
      ·
        exact absurd c52 (by decide)
    ·
      exact absurd c51 (by decide)
  ·
    have g78 := x_cN_s b p0 0 15
    have g79 := x_c4_s (T 4 (x_vl b p0))
    have g80 := x_cN_s b (x_en b p0) 0 3
    replace p6 := And.intro (((p6.1.resolve_left (fun q => by omega)).resolve_left (fun q => by omega)).2.2.2.1.resolve_right (fun q => by omega)) p6.2
    refine V_iload_n 1 d_Mod_readCellOf_8 rfl rfl ?_
    refine V_iconst 5 d_Mod_readCellOf_9 (by decide) ?_
    refine V_icmp_ne 43 tc_7 tc_5 d_Mod_readCellOf_10 (by decide) (fun c81 => ?_) (fun c81 => ?_)
    ·
      refine V_aload_n 0 d_Mod_readCellOf_43 rfl rfl ?_
      refine V_iload_n 1 d_Mod_readCellOf_44 rfl rfl ?_
      refine V_iconst 4 d_Mod_readCellOf_45 (by decide) ?_
      refine V_icmp_ne 53 tc_7 tc_4 d_Mod_readCellOf_46 (by decide) (fun c82 => ?_) (fun c82 => ?_)
      ·
        refine V_iconst 0 d_Mod_readCellOf_53 (by decide) ?_
        refine V_iload_n 1 d_Mod_readCellOf_54 rfl rfl ?_
        refine V_iconst 4 d_Mod_readCellOf_55 (by decide) ?_
        refine V_icmp_ne 64 tc_7 tc_4 d_Mod_readCellOf_56 (by decide) (fun c83 => ?_) (fun c83 => ?_)
        ·
          refine V_iload_n 1 d_Mod_readCellOf_64 rfl rfl ?_
          refine V_bipush 6 d_Mod_readCellOf_65 (by decide) ?_
          refine V_icmp_ne 75 tc_7 tc_6 d_Mod_readCellOf_67 (by decide) (fun c84 => ?_) (fun c84 => ?_)
          ·
            refine V_iconst 3 d_Mod_readCellOf_75 (by decide) ?_
            refine N_callVI [.int 0, .int 3] [] cv_Mod_158 sk_116 rfl d_Mod_readCellOf_76 rfl (Nat.le_of_ble_eq_true rfl) (by decide) (by decide) (c_Mod_readNumberX h5 b (x_en b p0) hI7 0 0 tc_0 3 3 tc_3 s sZ sE (kn_call fh5 sK rfl) o9 o9Z o9E o9K o10 o10Z o10E o10K o11 o11Z o11E o11K o12 o12Z o12E o12K o13 o13Z o13E o13K o14 o14Z o14E o14K (TP_fr f8 (fun _ => rfl) hy0) (by omega) (Or.inl (by omega))) (fun z85 h86 z85Z z85E p87 => ?_)
            obtain ⟨hI88, fh86, o90, o90Z, o90E, o90K, o91, o91Z, o91E, o91K, o92, o92Z, o92E, o92K, o93, o93Z, o93E, o93K, o94, o94Z, o94E, o94K, o95, o95Z, o95E, o95K, p87⟩ := p87
            have f89 : fr S_Mod_readCellOfX_7 h h86 := fr_call f8 fh86 rfl
            have g96 : 0 ≤ o90Z ∧ o90Z ≤ 160 := inv_at hI88 o90E o90K.symm rfl
            have g97 : 0 ≤ o91Z ∧ o91Z ≤ 160 := inv_at hI88 o91E o91K.symm rfl
            have g98 := x_cS_s b (x_en b (x_en b p0))
            refine V_istore_n 3 [some (.ref 116), some (.int 7), some (.int z4), some (.int z85), none] d_Mod_readCellOf_79 rfl (by decide) rfl rfl ?_
            refine V_iload_n 1 d_Mod_readCellOf_80 rfl rfl ?_
            refine V_iconst 4 d_Mod_readCellOf_81 (by decide) ?_
            refine V_icmp_ne 89 tc_7 tc_4 d_Mod_readCellOf_82 (by decide) (fun c99 => ?_) (fun c99 => ?_)
            ·
              refine V_iload_n 1 d_Mod_readCellOf_89 rfl rfl ?_
              refine V_bipush 6 d_Mod_readCellOf_90 (by decide) ?_
              refine V_icmp_ne 100 tc_7 tc_6 d_Mod_readCellOf_92 (by decide) (fun c100 => ?_) (fun c100 => ?_)
              ·
                refine V_bipush 48 d_Mod_readCellOf_100 (by decide) ?_
                refine V_istore 4 [some (.ref 116), some (.int 7), some (.int z4), some (.int z85), some (.int 48)] d_Mod_readCellOf_102 (by decide) rfl rfl ?_
                refine V_aload_n 0 d_Mod_readCellOf_104 rfl rfl ?_
                refine V_getR fa_Mod_17 sk_116 rfl d_Mod_readCellOf_105 ?_
                refine V_iload d_Mod_readCellOf_108 rfl ?_
                refine V_iload_n 2 d_Mod_readCellOf_110 rfl rfl ?_
                refine V_iadd tc_48 z4E (by omega) d_Mod_readCellOf_111 (fun z101 z101e z101E => ?_)
                refine V_aload_n 0 d_Mod_readCellOf_112 rfl rfl ?_
                refine N_getK fa_Mod_102 sk_116 rfl d_Mod_readCellOf_113 o94K ?_
                refine V_if_ne 123 o94E d_Mod_readCellOf_116 (by decide) (fun c102 => ?_) (fun c102 => ?_)
                ·
                  refine V_aload_n 0 d_Mod_readCellOf_123 rfl rfl ?_
                  refine V_getR fa_Mod_17 sk_116 rfl d_Mod_readCellOf_124 ?_
                  refine V_iload d_Mod_readCellOf_127 rfl ?_
                  refine V_iload_n 2 d_Mod_readCellOf_129 rfl rfl ?_
                  refine V_iadd tc_48 z4E (by omega) d_Mod_readCellOf_130 (fun z103 z103e z103E => ?_)
                  refine N_iald sk_119 z103E (by omega) d_Mod_readCellOf_131 (fun z104 z104Z z104E z104e => ?_)
                  refine N_iast sk_119 z101E (by omega) d_Mod_readCellOf_132 (fun h105 eh105 => ?_)
                  have hI106 : Inv h105 := inv_full hI88 eh105 (st_lo (by omega))
                  have f107 : fr S_Mod_readCellOfX_7 h h105 := fr_put f89 eh105 rfl
                  exact V_vret rfl d_Mod_readCellOf_133 ⟨rfl, ⟨hI106, f107, o90, o90Z, o90E, (kn_ne eh105 o90K (by decide)), o91, o91Z, o91E, (kn_ne eh105 o91K (by decide)), o92, o92Z, o92E, (kn_ne eh105 o92K (by decide)), o93, o93Z, o93E, (kn_ne eh105 o93K (by decide)), o94, o94Z, o94E, (kn_ne eh105 o94K (by decide)), o95, o95Z, o95E, (kn_ne eh105 o95K (by decide)), ⟨Or.inl ⟨by omega, (show x_l4 b T p0 = (x_cN b (x_en b p0) 0 3, x_fr b (x_en b p0)) from by unfold x_l4; rw [x_sq_n (c := x_cN b p0 0 15) (by omega), x_sq_n (c := x_c4 (T 4 (x_vl b p0))) (by omega), x_sq_y (c := x_cN b (x_en b p0) 0 3) (by omega)]).trans (pq (by omega) (by omega))⟩, by omega, by omega, by omega⟩⟩⟩
                ·
                  exact absurd c102 (by omega)
              ·
                exact absurd c100 (by decide)
            ·
              exact absurd c99 (by decide)
          ·
            exact absurd c84 (by decide)
        ·
          exact absurd c83 (by decide)
      ·
        exact absurd c82 (by decide)
    ·
      exact absurd c81 (by decide)
  ·
    have g108 := x_cN_s b p0 0 15
    have g109 := x_c4_s (T 4 (x_vl b p0))
    have g110 := x_cN_s b (x_en b p0) 0 3
    obtain ⟨p61, p62, p63, p64, p6R⟩ := ((p6.1.resolve_left (fun q => by omega)).resolve_left (fun q => by omega))
    replace p6 := And.intro (p64.resolve_left (fun q => by omega)) p6.2
    clear p64
    refine V_iload_n 1 d_Mod_readCellOf_8 rfl rfl ?_
    refine V_iconst 5 d_Mod_readCellOf_9 (by decide) ?_
    refine V_icmp_ne 43 tc_7 tc_5 d_Mod_readCellOf_10 (by decide) (fun c111 => ?_) (fun c111 => ?_)
    ·
      refine V_aload_n 0 d_Mod_readCellOf_43 rfl rfl ?_
      refine V_iload_n 1 d_Mod_readCellOf_44 rfl rfl ?_
      refine V_iconst 4 d_Mod_readCellOf_45 (by decide) ?_
      refine V_icmp_ne 53 tc_7 tc_4 d_Mod_readCellOf_46 (by decide) (fun c112 => ?_) (fun c112 => ?_)
      ·
        refine V_iconst 0 d_Mod_readCellOf_53 (by decide) ?_
        refine V_iload_n 1 d_Mod_readCellOf_54 rfl rfl ?_
        refine V_iconst 4 d_Mod_readCellOf_55 (by decide) ?_
        refine V_icmp_ne 64 tc_7 tc_4 d_Mod_readCellOf_56 (by decide) (fun c113 => ?_) (fun c113 => ?_)
        ·
          refine V_iload_n 1 d_Mod_readCellOf_64 rfl rfl ?_
          refine V_bipush 6 d_Mod_readCellOf_65 (by decide) ?_
          refine V_icmp_ne 75 tc_7 tc_6 d_Mod_readCellOf_67 (by decide) (fun c114 => ?_) (fun c114 => ?_)
          ·
            refine V_iconst 3 d_Mod_readCellOf_75 (by decide) ?_
            refine N_callVI [.int 0, .int 3] [] cv_Mod_158 sk_116 rfl d_Mod_readCellOf_76 rfl (Nat.le_of_ble_eq_true rfl) (by decide) (by decide) (c_Mod_readNumberX h5 b (x_en b p0) hI7 0 0 tc_0 3 3 tc_3 s sZ sE (kn_call fh5 sK rfl) o9 o9Z o9E o9K o10 o10Z o10E o10K o11 o11Z o11E o11K o12 o12Z o12E o12K o13 o13Z o13E o13K o14 o14Z o14E o14K (TP_fr f8 (fun _ => rfl) hy0) (by omega) (Or.inr ⟨by omega, by omega, by omega, by omega, by omega, by omega, by omega, by omega, by omega, by omega, by omega⟩)) (fun z115 h116 z115Z z115E p117 => ?_)
            obtain ⟨hI118, fh116, o120, o120Z, o120E, o120K, o121, o121Z, o121E, o121K, o122, o122Z, o122E, o122K, o123, o123Z, o123E, o123K, o124, o124Z, o124E, o124K, o125, o125Z, o125E, o125K, p117⟩ := p117
            have f119 : fr S_Mod_readCellOfX_7 h h116 := fr_call f8 fh116 rfl
            have R126 : RM h116 (x_upT T 4 (x_vl b p0)) D := RM_fr fh116 rfl p6R
            have g127 : 0 ≤ o120Z ∧ o120Z ≤ 160 := inv_at hI118 o120E o120K.symm rfl
            have g128 : 0 ≤ o121Z ∧ o121Z ≤ 160 := inv_at hI118 o121E o121K.symm rfl
            rcases (by omega : o124Z ≠ 0 ∧ x_cN b (x_en b p0) 0 3 ≠ 0 ∨ o124Z ≠ 0 ∧ x_cN b (x_en b p0) 0 3 = 0 ∨ o124Z = 0) with c129 | c129 | c129
            ·
              have g130 := x_cS_s b (x_en b (x_en b p0))
              replace p117 := And.intro ((p117.1.resolve_left (fun q => by omega)).resolve_right (fun q => by omega)) p117.2
              refine V_istore_n 3 [some (.ref 116), some (.int 7), some (.int z4), some (.int z115), none] d_Mod_readCellOf_79 rfl (by decide) rfl rfl ?_
              refine V_iload_n 1 d_Mod_readCellOf_80 rfl rfl ?_
              refine V_iconst 4 d_Mod_readCellOf_81 (by decide) ?_
              refine V_icmp_ne 89 tc_7 tc_4 d_Mod_readCellOf_82 (by decide) (fun c131 => ?_) (fun c131 => ?_)
              ·
                refine V_iload_n 1 d_Mod_readCellOf_89 rfl rfl ?_
                refine V_bipush 6 d_Mod_readCellOf_90 (by decide) ?_
                refine V_icmp_ne 100 tc_7 tc_6 d_Mod_readCellOf_92 (by decide) (fun c132 => ?_) (fun c132 => ?_)
                ·
                  refine V_bipush 48 d_Mod_readCellOf_100 (by decide) ?_
                  refine V_istore 4 [some (.ref 116), some (.int 7), some (.int z4), some (.int z115), some (.int 48)] d_Mod_readCellOf_102 (by decide) rfl rfl ?_
                  refine V_aload_n 0 d_Mod_readCellOf_104 rfl rfl ?_
                  refine V_getR fa_Mod_17 sk_116 rfl d_Mod_readCellOf_105 ?_
                  refine V_iload d_Mod_readCellOf_108 rfl ?_
                  refine V_iload_n 2 d_Mod_readCellOf_110 rfl rfl ?_
                  refine V_iadd tc_48 z4E (by omega) d_Mod_readCellOf_111 (fun z133 z133e z133E => ?_)
                  refine V_aload_n 0 d_Mod_readCellOf_112 rfl rfl ?_
                  refine N_getK fa_Mod_102 sk_116 rfl d_Mod_readCellOf_113 o124K ?_
                  refine V_if_ne 123 o124E d_Mod_readCellOf_116 (by decide) (fun c134 => ?_) (fun c134 => ?_)
                  ·
                    refine V_aload_n 0 d_Mod_readCellOf_123 rfl rfl ?_
                    refine V_getR fa_Mod_17 sk_116 rfl d_Mod_readCellOf_124 ?_
                    refine V_iload d_Mod_readCellOf_127 rfl ?_
                    refine V_iload_n 2 d_Mod_readCellOf_129 rfl rfl ?_
                    refine V_iadd tc_48 z4E (by omega) d_Mod_readCellOf_130 (fun z135 z135e z135E => ?_)
                    refine N_iald sk_119 z135E (by omega) d_Mod_readCellOf_131 (fun z136 z136Z z136E z136e => ?_)
                    refine N_iast sk_119 z133E (by omega) d_Mod_readCellOf_132 (fun h137 eh137 => ?_)
                    have hI138 : Inv h137 := inv_full hI118 eh137 (st_lo (by omega))
                    have f139 : fr S_Mod_readCellOfX_7 h h137 := fr_put f119 eh137 rfl
                    exact V_vret rfl d_Mod_readCellOf_133 ⟨rfl, ⟨hI138, f139, o120, o120Z, o120E, (kn_ne eh137 o120K (by decide)), o121, o121Z, o121E, (kn_ne eh137 o121K (by decide)), o122, o122Z, o122E, (kn_ne eh137 o122K (by decide)), o123, o123Z, o123E, (kn_ne eh137 o123K (by decide)), o124, o124Z, o124E, (kn_ne eh137 o124K (by decide)), o125, o125Z, o125E, (kn_ne eh137 o125K (by decide)), ⟨Or.inl ⟨by omega, (show x_l4 b T p0 = (x_cN b (x_en b p0) 0 3, x_fr b (x_en b p0)) from by unfold x_l4; rw [x_sq_n (c := x_cN b p0 0 15) (by omega), x_sq_n (c := x_c4 (T 4 (x_vl b p0))) (by omega), x_sq_y (c := x_cN b (x_en b p0) 0 3) (by omega)]).trans (pq (by omega) (by omega))⟩, by omega, by omega, by omega⟩⟩⟩
                  ·
                    exact absurd c134 (by omega)
                ·
                  exact absurd c132 (by decide)
              ·
                exact absurd c131 (by decide)
            ·
              have g140 := x_cS_s b (x_en b (x_en b p0))
              replace p117 := And.intro ((p117.1.resolve_left (fun q => by omega)).resolve_left (fun q => by omega)).2.1 (And.intro ((p117.1.resolve_left (fun q => by omega)).resolve_left (fun q => by omega)).2.2.1 (And.intro (((p117.1.resolve_left (fun q => by omega)).resolve_left (fun q => by omega)).2.2.2.resolve_right (fun q => by omega)) p117.2))
              refine V_istore_n 3 [some (.ref 116), some (.int 7), some (.int z4), some (.int z115), none] d_Mod_readCellOf_79 rfl (by decide) rfl rfl ?_
              refine V_iload_n 1 d_Mod_readCellOf_80 rfl rfl ?_
              refine V_iconst 4 d_Mod_readCellOf_81 (by decide) ?_
              refine V_icmp_ne 89 tc_7 tc_4 d_Mod_readCellOf_82 (by decide) (fun c141 => ?_) (fun c141 => ?_)
              ·
                refine V_iload_n 1 d_Mod_readCellOf_89 rfl rfl ?_
                refine V_bipush 6 d_Mod_readCellOf_90 (by decide) ?_
                refine V_icmp_ne 100 tc_7 tc_6 d_Mod_readCellOf_92 (by decide) (fun c142 => ?_) (fun c142 => ?_)
                ·
                  refine V_bipush 48 d_Mod_readCellOf_100 (by decide) ?_
                  refine V_istore 4 [some (.ref 116), some (.int 7), some (.int z4), some (.int z115), some (.int 48)] d_Mod_readCellOf_102 (by decide) rfl rfl ?_
                  refine V_aload_n 0 d_Mod_readCellOf_104 rfl rfl ?_
                  refine V_getR fa_Mod_17 sk_116 rfl d_Mod_readCellOf_105 ?_
                  refine V_iload d_Mod_readCellOf_108 rfl ?_
                  refine V_iload_n 2 d_Mod_readCellOf_110 rfl rfl ?_
                  refine V_iadd tc_48 z4E (by omega) d_Mod_readCellOf_111 (fun z143 z143e z143E => ?_)
                  refine V_aload_n 0 d_Mod_readCellOf_112 rfl rfl ?_
                  refine N_getK fa_Mod_102 sk_116 rfl d_Mod_readCellOf_113 o124K ?_
                  refine V_if_ne 123 o124E d_Mod_readCellOf_116 (by decide) (fun c144 => ?_) (fun c144 => ?_)
                  ·
                    refine V_aload_n 0 d_Mod_readCellOf_123 rfl rfl ?_
                    refine V_getR fa_Mod_17 sk_116 rfl d_Mod_readCellOf_124 ?_
                    refine V_iload d_Mod_readCellOf_127 rfl ?_
                    refine V_iload_n 2 d_Mod_readCellOf_129 rfl rfl ?_
                    refine V_iadd tc_48 z4E (by omega) d_Mod_readCellOf_130 (fun z145 z145e z145E => ?_)
                    refine N_iald sk_119 z145E (by omega) d_Mod_readCellOf_131 (fun z146 z146Z z146E z146e => ?_)
                    refine N_iast sk_119 z143E (by omega) d_Mod_readCellOf_132 (fun h147 eh147 => ?_)
                    have hI148 : Inv h147 := inv_full hI118 eh147 (st_lo (by omega))
                    have f149 : fr S_Mod_readCellOfX_7 h h147 := fr_put f119 eh147 rfl
                    exact V_vret rfl d_Mod_readCellOf_133 ⟨rfl, ⟨hI148, f149, o120, o120Z, o120E, (kn_ne eh147 o120K (by decide)), o121, o121Z, o121E, (kn_ne eh147 o121K (by decide)), o122, o122Z, o122E, (kn_ne eh147 o122K (by decide)), o123, o123Z, o123E, (kn_ne eh147 o123K (by decide)), o124, o124Z, o124E, (kn_ne eh147 o124K (by decide)), o125, o125Z, o125E, (kn_ne eh147 o125K (by decide)), ⟨Or.inl ⟨by omega, (show x_l4 b T p0 = (x_cS b (x_en b (x_en b p0)), x_fr b (x_en b (x_en b p0))) from by unfold x_l4; rw [x_sq_n (c := x_cN b p0 0 15) (by omega), x_sq_n (c := x_c4 (T 4 (x_vl b p0))) (by omega), x_sq_n (c := x_cN b (x_en b p0) 0 3) (by omega), x_sq_y (c := x_cS b (x_en b (x_en b p0))) (by omega)]).trans (pq (by omega) (by omega))⟩, by omega, by omega, by omega⟩⟩⟩
                  ·
                    exact absurd c144 (by omega)
                ·
                  exact absurd c142 (by decide)
              ·
                exact absurd c141 (by decide)
            ·
              have g150 := x_cS_s b (x_en b (x_en b p0))
              replace p117 := And.intro ((p117.1.resolve_left (fun q => by omega)).resolve_left (fun q => by omega)).2.1 (And.intro ((p117.1.resolve_left (fun q => by omega)).resolve_left (fun q => by omega)).2.2.1 (And.intro (((p117.1.resolve_left (fun q => by omega)).resolve_left (fun q => by omega)).2.2.2.resolve_left (fun q => by omega)) p117.2))
              refine V_istore_n 3 [some (.ref 116), some (.int 7), some (.int z4), some (.int z115), none] d_Mod_readCellOf_79 rfl (by decide) rfl rfl ?_
              refine V_iload_n 1 d_Mod_readCellOf_80 rfl rfl ?_
              refine V_iconst 4 d_Mod_readCellOf_81 (by decide) ?_
              refine V_icmp_ne 89 tc_7 tc_4 d_Mod_readCellOf_82 (by decide) (fun c151 => ?_) (fun c151 => ?_)
              ·
                refine V_iload_n 1 d_Mod_readCellOf_89 rfl rfl ?_
                refine V_bipush 6 d_Mod_readCellOf_90 (by decide) ?_
                refine V_icmp_ne 100 tc_7 tc_6 d_Mod_readCellOf_92 (by decide) (fun c152 => ?_) (fun c152 => ?_)
                ·
                  refine V_bipush 48 d_Mod_readCellOf_100 (by decide) ?_
                  refine V_istore 4 [some (.ref 116), some (.int 7), some (.int z4), some (.int z115), some (.int 48)] d_Mod_readCellOf_102 (by decide) rfl rfl ?_
                  refine V_aload_n 0 d_Mod_readCellOf_104 rfl rfl ?_
                  refine V_getR fa_Mod_17 sk_116 rfl d_Mod_readCellOf_105 ?_
                  refine V_iload d_Mod_readCellOf_108 rfl ?_
                  refine V_iload_n 2 d_Mod_readCellOf_110 rfl rfl ?_
                  refine V_iadd tc_48 z4E (by omega) d_Mod_readCellOf_111 (fun z153 z153e z153E => ?_)
                  refine V_aload_n 0 d_Mod_readCellOf_112 rfl rfl ?_
                  refine N_getK fa_Mod_102 sk_116 rfl d_Mod_readCellOf_113 o124K ?_
                  refine V_if_ne 123 o124E d_Mod_readCellOf_116 (by decide) (fun c154 => ?_) (fun c154 => ?_)
                  ·
                    exact absurd c154 (by omega)
                  ·
                    refine V_iload_n 3 d_Mod_readCellOf_119 rfl rfl ?_
                    refine V_goto 132 d_Mod_readCellOf_120 (by decide) ?_
                    refine N_iast sk_119 z153E (by omega) d_Mod_readCellOf_132 (fun h155 eh155 => ?_)
                    have hI156 : Inv h155 := inv_full hI118 eh155 (st_lo (by omega))
                    have f157 : fr S_Mod_readCellOfX_7 h h155 := fr_put f119 eh155 rfl
                    have R158 : RM h155 (x_upT T 4 (x_vl b p0)) (x_up D (48 + (x_vl b p0)) (x_vl b (x_en b p0))) := RM_put R126 eh155 (Or.inl ⟨rfl, by omega, rfl⟩) (z115E.trans (by omega)) (by omega)
                    exact V_vret rfl d_Mod_readCellOf_133 ⟨rfl, ⟨hI156, f157, o120, o120Z, o120E, (kn_ne eh155 o120K (by decide)), o121, o121Z, o121E, (kn_ne eh155 o121K (by decide)), o122, o122Z, o122E, (kn_ne eh155 o122K (by decide)), o123, o123Z, o123E, (kn_ne eh155 o123K (by decide)), o124, o124Z, o124E, (kn_ne eh155 o124K (by decide)), o125, o125Z, o125E, (kn_ne eh155 o125K (by decide)), ⟨Or.inr ⟨by omega, by unfold x_l4; rw [x_sq_n (c := x_cN b p0 0 15) (by omega), x_sq_n (c := x_c4 (T 4 (x_vl b p0))) (by omega), x_sq_n (c := x_cN b (x_en b p0) 0 3) (by omega)], ⟨by omega, by omega, by omega, by omega, by omega, by omega, by omega, by omega, by omega, by omega, by omega⟩, R158⟩, by omega, by omega, by omega⟩⟩⟩
                ·
                  exact absurd c152 (by decide)
              ·
                exact absurd c151 (by decide)
          ·
            exact absurd c114 (by decide)
        ·
          exact absurd c113 (by decide)
      ·
        exact absurd c112 (by decide)
    ·
      exact absurd c111 (by decide)
