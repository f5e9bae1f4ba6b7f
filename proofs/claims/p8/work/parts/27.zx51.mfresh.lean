def S_Mod_readFreshX_4 : List (Nat × Option Nat) := [(116, some 16), (116, some 17), (116, some 18), (116, some 19), (116, some 20), (116, some 21), (120, some 0), (116, some 13)]
abbrev q_Mod_readFreshX_4 (h : Hp) (b : Int → Int) (T : Nat → Int → Int) (D : Nat → Int) (p0 : Int) (s : Int32) (sZ : Int) (p : Int32) (pZ : Int) (g : Int32) (gZ : Int) (k : Int32) (kZ : Int) (v : Int32) (vZ : Int) (w : Int32) (wZ : Int) (a : Int32) (aZ : Int) (z : Int32) (zZ : Int) (i : Int32) (iZ : Int) : Option Value → Hp → Prop := pInt (fun r h' => Inv h' ∧ fr S_Mod_readFreshX_4 h h' ∧ ∃ (q : Int32) (qZ : Int), q.toInt = qZ ∧ h'.1 116 16 = q ∧ ∃ (f : Int32) (fZ : Int), f.toInt = fZ ∧ h'.1 116 17 = f ∧ ∃ (m : Int32) (mZ : Int), m.toInt = mZ ∧ h'.1 116 18 = m ∧ ∃ (x : Int32) (xZ : Int), x.toInt = xZ ∧ h'.1 116 19 = x ∧ ∃ (u : Int32) (uZ : Int), u.toInt = uZ ∧ h'.1 116 20 = u ∧ ∃ (y : Int32) (yZ : Int), y.toInt = yZ ∧ h'.1 116 21 = y ∧ ((x_cN b p0 0 15 ≠ 0 ∧ uZ = x_cN b p0 0 15 ∧ yZ = x_fr b p0 ∨ x_cN b p0 0 15 = 0 ∧ x_c4 (T 1 (x_vl b p0)) ≠ 0 ∧ uZ = 4 ∧ yZ = x_fr b p0 ∨ x_cN b p0 0 15 = 0 ∧ x_c4 (T 1 (x_vl b p0)) = 0 ∧ r.toInt = x_vl b p0 ∧ (uZ = 1 ∧ x_kd b (x_en b p0) = 4 ∧ yZ = x_fr b (x_en b p0) ∨ uZ = 0 ∧ fZ = x_fr b (x_en b p0) ∧ mZ = x_kd b (x_en b p0) ∧ mZ ≠ 4 ∧ 0 ≤ mZ ∧ mZ ≤ 3 ∧ qZ = x_en b (x_en b p0) ∧ (mZ ≠ 2 ∨ xZ = x_vl b (x_en b p0) ∧ 0 ≤ xZ ∧ xZ ≤ 99) ∧ (x_en b p0) ≤ fZ ∧ fZ ≤ qZ ∧ qZ ≤ sZ ∧ (mZ = 0 ∨ fZ < qZ)) ∧ RM h' (x_upT T 1 (x_vl b p0)) D) ∧ 0 ≤ qZ ∧ qZ ≤ sZ ∧ 0 ≤ uZ ∧ 0 ≤ r.toInt ∧ r.toInt ≤ 15))
set_option maxRecDepth 100000 in
theorem c_Mod_readFreshX_4 (h : Hp) (b : Int → Int) (T : Nat → Int → Int) (D : Nat → Int) (p0 : Int) (hI : Inv h) (s : Int32) (sZ : Int) (sE : s.toInt = sZ) (sK : h.1 116 15 = s) (p : Int32) (pZ : Int) (pE : p.toInt = pZ) (pK : h.1 116 16 = p) (g : Int32) (gZ : Int) (gE : g.toInt = gZ) (gK : h.1 116 17 = g) (k : Int32) (kZ : Int) (kE : k.toInt = kZ) (kK : h.1 116 18 = k) (v : Int32) (vZ : Int) (vE : v.toInt = vZ) (vK : h.1 116 19 = v) (w : Int32) (wZ : Int) (wE : w.toInt = wZ) (wK : h.1 116 20 = w) (a : Int32) (aZ : Int) (aE : a.toInt = aZ) (aK : h.1 116 21 = a) (z : Int32) (zZ : Int) (zE : z.toInt = zZ) (zK : h.1 120 0 = z) (i : Int32) (iZ : Int) (iE : i.toInt = iZ) (iK : h.1 116 13 = i) (hy0 : TP h 121 sZ b) (hy1 : 0 ≤ pZ ∧ pZ ≤ sZ ∧ wZ = 0) (hy2 : gZ = x_fr b p0 ∧ kZ = x_kd b p0 ∧ kZ ≠ 4 ∧ 0 ≤ kZ ∧ kZ ≤ 3 ∧ pZ = x_en b p0 ∧ (kZ ≠ 2 ∨ vZ = x_vl b p0 ∧ 0 ≤ vZ ∧ vZ ≤ 99) ∧ p0 ≤ gZ ∧ gZ ≤ pZ ∧ pZ ≤ sZ ∧ (kZ = 0 ∨ gZ < pZ)) (hy3 : RM h T D) : Ct y_Mod_readFresh b_Mod_readFresh 4 (some .int) 2 47 [.ref 116, .int 4, .int 15] h (q_Mod_readFreshX_4 h b T D p0 s sZ p pZ g gZ k kZ v vZ w wZ a aZ z zZ i iZ) := by
  refine ct_ow R_Mod [some (.ref 116), some (.int 4), some (.int 15), none] rfl (by decide) rfl (Nat.le_of_ble_eq_true rfl) ?_
  have f0 : fr S_Mod_readFreshX_4 h h := fr_rf
  have g1 : 0 ≤ sZ ∧ sZ ≤ 160 := inv_at hI sE sK.symm rfl
  have g2 : 0 ≤ pZ ∧ pZ ≤ 160 := inv_at hI pE pK.symm rfl
  have g3 : 0 ≤ gZ ∧ gZ ≤ 160 := inv_at hI gE gK.symm rfl
  refine V_aload_n 0 d_Mod_readFresh_0 rfl rfl ?_
  refine V_iconst 0 d_Mod_readFresh_1 (by decide) ?_
  refine V_iload_n 2 d_Mod_readFresh_2 rfl rfl ?_
  refine N_callVI [.int 0, .int 15] [] cv_Mod_148 sk_116 rfl d_Mod_readFresh_3 rfl (Nat.le_of_ble_eq_true rfl) (by decide) (by decide) (c_Mod_lookedX h hI 0 0 tc_0 15 15 tc_15 g gZ gE gK k kZ kE kK v vZ vE vK w wZ wE wK a aZ aE aK) (fun z4 h5 z4Z z4E p6 => ?_)
  obtain ⟨hI7, fh5, o9, o9Z, o9E, o9K, o10, o10Z, o10E, o10K, p6⟩ := p6
  have f8 : fr S_Mod_readFreshX_4 h h5 := fr_call f0 fh5 rfl
  have R11 : RM h5 T D := RM_fr fh5 rfl hy3
  refine V_istore_n 3 [some (.ref 116), some (.int 4), some (.int 15), some (.int z4)] d_Mod_readFresh_6 rfl (by decide) rfl rfl ?_
  replace p6 := lk_all hy2 hy1.2.2 p6
  replace hy2 := lx_s hy2
  have g12 : x_fr b pZ = x_fr b (x_en b p0) := congrArg (x_fr b) (by (first | decide +kernel | omega))
  have g13 : x_kd b pZ = x_kd b (x_en b p0) := congrArg (x_kd b) (by (first | decide +kernel | omega))
  have g14 : x_en b pZ = x_en b (x_en b p0) := congrArg (x_en b) (by (first | decide +kernel | omega))
  have g15 : x_vl b pZ = x_vl b (x_en b p0) := congrArg (x_vl b) (by (first | decide +kernel | omega))
  refine V_aload_n 0 d_Mod_readFresh_7 rfl rfl ?_
  refine N_getK fa_Mod_102 sk_116 rfl d_Mod_readFresh_8 o9K ?_
  refine V_if_ne 39 o9E d_Mod_readFresh_11 (by decide) (fun c16 => ?_) (fun c16 => ?_)
  ·
    replace p6 := And.intro p6.1 (p6.2.resolve_right (fun q => by (first | decide +kernel | omega)))
    refine V_aload_n 0 d_Mod_readFresh_39 rfl rfl ?_
    refine N_getK fa_Mod_102 sk_116 rfl d_Mod_readFresh_40 o9K ?_
    refine V_if_ne 86 o9E d_Mod_readFresh_43 (by decide) (fun c17 => ?_) (fun c17 => ?_)
    ·
      refine V_aload_n 0 d_Mod_readFresh_86 rfl rfl ?_
      refine N_callVV [] [] cv_Mod_152 sk_116 rfl d_Mod_readFresh_87 rfl (Nat.le_of_ble_eq_true rfl) (by decide) (by decide) (c_Mod_nextX h5 b hI7 s sZ sE (kn_call fh5 sK rfl) p pZ pE (kn_call fh5 pK rfl) g gZ gE (kn_call fh5 gK rfl) k kZ kE (kn_call fh5 kK rfl) v vZ vE (kn_call fh5 vK rfl) o9 o9Z o9E o9K o10 o10Z o10E o10K (TP_fr f8 (fun _ => rfl) hy0) (by (first | decide +kernel | omega))) (fun h19 p20 => ?_)
      obtain ⟨hI21, fh19, o23, o23Z, o23E, o23K, o24, o24Z, o24E, o24K, o25, o25Z, o25E, o25K, o26, o26Z, o26E, o26K, o27, o27Z, o27E, o27K, o28, o28Z, o28E, o28K, p20⟩ := p20
      have f22 : fr S_Mod_readFreshX_4 h h19 := fr_call f8 fh19 rfl
      have R29 : RM h19 T D := RM_fr fh19 rfl R11
      have g30 : 0 ≤ o23Z ∧ o23Z ≤ 160 := inv_at hI21 o23E o23K.symm rfl
      have g31 : 0 ≤ o24Z ∧ o24Z ≤ 160 := inv_at hI21 o24E o24K.symm rfl
      replace p20 := p20.resolve_right (fun q => by (first | decide +kernel | omega))
      refine V_iload_n 3 d_Mod_readFresh_90 rfl rfl ?_
      exact V_iret rfl d_Mod_readFresh_91 ⟨z4, rfl, ⟨hI21, f22, o23, o23Z, o23E, o23K, o24, o24Z, o24E, o24K, o25, o25Z, o25E, o25K, o26, o26Z, o26E, o26K, o27, o27Z, o27E, o27K, o28, o28Z, o28E, o28K, ⟨(Or.inl (⟨by (first | decide +kernel | omega), by (first | decide +kernel | omega), by (first | decide +kernel | omega)⟩)), by (first | decide +kernel | omega), by (first | decide +kernel | omega), by (first | decide +kernel | omega), by rw [z4E]; omega, by rw [z4E]; omega⟩⟩⟩
    ·
      exact absurd c17 (by (first | decide +kernel | omega))
  ·
    replace p6 := And.intro p6.1 (p6.2.resolve_left (fun q => by (first | decide +kernel | omega)))
    refine V_aload_n 0 d_Mod_readFresh_14 rfl rfl ?_
    refine V_aload_n 0 d_Mod_readFresh_15 rfl rfl ?_
    refine V_getR fa_Mod_20 sk_116 rfl d_Mod_readFresh_16 ?_
    refine V_iload_n 1 d_Mod_readFresh_19 rfl rfl ?_
    refine V_iconst 4 d_Mod_readFresh_20 (by decide) ?_
    refine V_isubw d_Mod_readFresh_21 (fun z32 z32e => ?_)
    obtain rfl : z32 = 0 := z32e.trans (by decide)
    refine N_ialdK sk_120 tc_0 (by (first | decide +kernel | omega)) d_Mod_readFresh_22 (kn_call fh5 zK rfl) ?_
    refine V_iload_n 3 d_Mod_readFresh_23 rfl rfl ?_
    refine N_ishr d_Mod_readFresh_24 (fun z34 z34Z z34E z34e => ?_)
    refine V_iconst 1 d_Mod_readFresh_25 (by decide) ?_
    refine N_iand d_Mod_readFresh_26 (fun z35 z35Z z35E z35e => ?_)
    have g36 : z35Z = T 1 z4Z := x_bt_of (RM_had R11 (by decide) (by decide) (kn_call fh5 zK rfl)) (by (first | decide +kernel | omega)) (by (first | decide +kernel | omega)) z4E z35E (by assumption) (by assumption)
    have g37 : T 1 z4Z = T 1 (x_vl b p0) := congrArg (T 1) (by (first | decide +kernel | omega))
    have g38 := x_c4_s (T 1 (x_vl b p0))
    refine V_if_ne 34 z35E d_Mod_readFresh_27 (by decide) (fun c39 => ?_) (fun c39 => ?_)
    ·
      replace g38 := g38.resolve_left (fun q => by (first | decide +kernel | omega))
      refine V_iconst 0 d_Mod_readFresh_34 (by decide) ?_
      refine V_iconst 4 d_Mod_readFresh_35 (by decide) ?_
      refine N_callVV [.int 0, .int 4] [] cv_Mod_144 sk_116 rfl d_Mod_readFresh_36 rfl (Nat.le_of_ble_eq_true rfl) (by decide) (by decide) (c_Mod_needsX h5 hI7 0 0 tc_0 4 4 tc_4 g gZ gE (kn_call fh5 gK rfl) o9 o9Z o9E o9K o10 o10Z o10E o10K) (fun h41 p42 => ?_)
      obtain ⟨hI43, fh41, o45, o45Z, o45E, o45K, o46, o46Z, o46E, o46K, p42⟩ := p42
      have f44 : fr S_Mod_readFreshX_4 h h41 := fr_call f8 fh41 rfl
      have R47 : RM h41 T D := RM_fr fh41 rfl R11
      replace p42 := (p42.resolve_left (by (first | decide +kernel | omega))).2.2
      refine V_aload_n 0 d_Mod_readFresh_39 rfl rfl ?_
      refine N_getK fa_Mod_102 sk_116 rfl d_Mod_readFresh_40 o45K ?_
      refine V_if_ne 86 o45E d_Mod_readFresh_43 (by decide) (fun c48 => ?_) (fun c48 => ?_)
      ·
        refine V_aload_n 0 d_Mod_readFresh_86 rfl rfl ?_
        refine N_callVV [] [] cv_Mod_152 sk_116 rfl d_Mod_readFresh_87 rfl (Nat.le_of_ble_eq_true rfl) (by decide) (by decide) (c_Mod_nextX h41 b hI43 s sZ sE (kn_call fh41 (kn_call fh5 sK rfl) rfl) p pZ pE (kn_call fh41 (kn_call fh5 pK rfl) rfl) g gZ gE (kn_call fh41 (kn_call fh5 gK rfl) rfl) k kZ kE (kn_call fh41 (kn_call fh5 kK rfl) rfl) v vZ vE (kn_call fh41 (kn_call fh5 vK rfl) rfl) o45 o45Z o45E o45K o46 o46Z o46E o46K (TP_fr f44 (fun _ => rfl) hy0) (by (first | decide +kernel | omega))) (fun h50 p51 => ?_)
        obtain ⟨hI52, fh50, o54, o54Z, o54E, o54K, o55, o55Z, o55E, o55K, o56, o56Z, o56E, o56K, o57, o57Z, o57E, o57K, o58, o58Z, o58E, o58K, o59, o59Z, o59E, o59K, p51⟩ := p51
        have f53 : fr S_Mod_readFreshX_4 h h50 := fr_call f44 fh50 rfl
        have R60 : RM h50 T D := RM_fr fh50 rfl R47
        have g61 : 0 ≤ o54Z ∧ o54Z ≤ 160 := inv_at hI52 o54E o54K.symm rfl
        have g62 : 0 ≤ o55Z ∧ o55Z ≤ 160 := inv_at hI52 o55E o55K.symm rfl
        replace p51 := p51.resolve_right (fun q => by (first | decide +kernel | omega))
        refine V_iload_n 3 d_Mod_readFresh_90 rfl rfl ?_
        exact V_iret rfl d_Mod_readFresh_91 ⟨z4, rfl, ⟨hI52, f53, o54, o54Z, o54E, o54K, o55, o55Z, o55E, o55K, o56, o56Z, o56E, o56K, o57, o57Z, o57E, o57K, o58, o58Z, o58E, o58K, o59, o59Z, o59E, o59K, ⟨(Or.inr (Or.inl (⟨by (first | decide +kernel | omega), by (first | decide +kernel | omega), by (first | decide +kernel | omega), by (first | decide +kernel | omega)⟩))), by (first | decide +kernel | omega), by (first | decide +kernel | omega), by (first | decide +kernel | omega), by rw [z4E]; omega, by rw [z4E]; omega⟩⟩⟩
      ·
        exact absurd c48 (by (first | decide +kernel | omega))
    ·
      replace g38 := g38.resolve_right (fun q => by (first | decide +kernel | omega))
      refine V_iconst 1 d_Mod_readFresh_30 (by decide) ?_
      refine V_goto 35 d_Mod_readFresh_31 (by decide) ?_
      refine V_iconst 4 d_Mod_readFresh_35 (by decide) ?_
      refine N_callVV [.int 1, .int 4] [] cv_Mod_144 sk_116 rfl d_Mod_readFresh_36 rfl (Nat.le_of_ble_eq_true rfl) (by decide) (by decide) (c_Mod_needsX h5 hI7 1 1 tc_1 4 4 tc_4 g gZ gE (kn_call fh5 gK rfl) o9 o9Z o9E o9K o10 o10Z o10E o10K) (fun h64 p65 => ?_)
      obtain ⟨hI66, fh64, o68, o68Z, o68E, o68K, o69, o69Z, o69E, o69K, p65⟩ := p65
      have f67 : fr S_Mod_readFreshX_4 h h64 := fr_call f8 fh64 rfl
      have R70 : RM h64 T D := RM_fr fh64 rfl R11
      replace p65 := (p65.resolve_right (by (first | decide +kernel | omega))).2
      refine V_aload_n 0 d_Mod_readFresh_39 rfl rfl ?_
      refine N_getK fa_Mod_102 sk_116 rfl d_Mod_readFresh_40 o68K ?_
      refine V_if_ne 86 o68E d_Mod_readFresh_43 (by decide) (fun c71 => ?_) (fun c71 => ?_)
      ·
        exact absurd c71 (by (first | decide +kernel | omega))
      ·
        refine V_aload_n 0 d_Mod_readFresh_46 rfl rfl ?_
        refine V_getR fa_Mod_20 sk_116 rfl d_Mod_readFresh_47 ?_
        refine V_iload_n 1 d_Mod_readFresh_50 rfl rfl ?_
        refine V_iconst 4 d_Mod_readFresh_51 (by decide) ?_
        refine V_isubw d_Mod_readFresh_52 (fun z72 z72e => ?_)
        obtain rfl : z72 = 0 := z72e.trans (by decide)
        refine V_dup2 d_Mod_readFresh_53 rfl rfl ?_
        refine N_ialdK sk_120 tc_0 (by (first | decide +kernel | omega)) d_Mod_readFresh_54 (kn_call fh64 (kn_call fh5 zK rfl) rfl) ?_
        refine V_iconst 1 d_Mod_readFresh_55 (by decide) ?_
        refine V_iload_n 3 d_Mod_readFresh_56 rfl rfl ?_
        refine N_ishl d_Mod_readFresh_57 (fun z74 z74Z z74E z74e => ?_)
        refine N_ior d_Mod_readFresh_58 (fun z75 z75Z z75E z75e => ?_)
        refine N_iast sk_120 tc_0 (by (first | decide +kernel | omega)) d_Mod_readFresh_59 (fun h76 eh76 => ?_)
        have hI77 : Inv h76 := inv_full hI66 eh76 rfl
        have f78 : fr S_Mod_readFreshX_4 h h76 := fr_put f67 eh76 rfl
        refine V_aload_n 0 d_Mod_readFresh_60 rfl rfl ?_
        refine V_iload_n 1 d_Mod_readFresh_61 rfl rfl ?_
        refine V_bipush 8 d_Mod_readFresh_62 (by decide) ?_
        refine V_icmp_ge 79 tc_4 tc_8 d_Mod_readFresh_64 (by decide) (fun c80 => ?_) (fun c80 => ?_)
        ·
          exact absurd c80 (by decide)
        ·
          refine V_iload_n 3 d_Mod_readFresh_67 rfl rfl ?_
          refine V_aload_n 0 d_Mod_readFresh_68 rfl rfl ?_
          refine N_getK fa_Mod_78 sk_116 rfl d_Mod_readFresh_69 (kn_ne eh76 (kn_call fh64 (kn_call fh5 iK rfl) rfl) (by decide)) ?_
          refine V_icmp_le 79 z4E iE d_Mod_readFresh_72 (by decide) (fun c81 => ?_) (fun c81 => ?_)
          ·
            refine V_aload_n 0 d_Mod_readFresh_79 rfl rfl ?_
            refine N_getK fa_Mod_78 sk_116 rfl d_Mod_readFresh_80 (kn_ne eh76 (kn_call fh64 (kn_call fh5 iK rfl) rfl) (by decide)) ?_
            refine N_putI fp_Mod_78 sk_116 rfl d_Mod_readFresh_83 (fun h82 eh82 => ?_)
            have hI83 : Inv h82 := inv_full hI77 eh82 rfl
            have f84 : fr S_Mod_readFreshX_4 h h82 := fr_put f78 eh82 rfl
            have R85 : RM h82 (x_upT T 1 (x_vl b p0)) D := RM_fresh (l := 1) R70 ⟨by decide, by decide⟩ eh76 (kn_call fh64 (kn_call fh5 zK rfl) rfl) (by (first | decide +kernel | omega)) (z4E.trans (by (first | decide +kernel | omega))) (by assumption) (by assumption) rfl eh82 iE ((congrArg Int32.toInt (kn_call fh64 (kn_call fh5 iK rfl) rfl)).trans iE) (Or.inl ⟨by decide, by (first | decide +kernel | omega)⟩)
            refine V_aload_n 0 d_Mod_readFresh_86 rfl rfl ?_
            refine N_callVV [] [] cv_Mod_152 sk_116 rfl d_Mod_readFresh_87 rfl (Nat.le_of_ble_eq_true rfl) (by decide) (by decide) (c_Mod_nextX h82 b hI83 s sZ sE (kn_nei eh82 (kn_ne eh76 (kn_call fh64 (kn_call fh5 sK rfl) rfl) (by decide)) (by decide)) p pZ pE (kn_nei eh82 (kn_ne eh76 (kn_call fh64 (kn_call fh5 pK rfl) rfl) (by decide)) (by decide)) g gZ gE (kn_nei eh82 (kn_ne eh76 (kn_call fh64 (kn_call fh5 gK rfl) rfl) (by decide)) (by decide)) k kZ kE (kn_nei eh82 (kn_ne eh76 (kn_call fh64 (kn_call fh5 kK rfl) rfl) (by decide)) (by decide)) v vZ vE (kn_nei eh82 (kn_ne eh76 (kn_call fh64 (kn_call fh5 vK rfl) rfl) (by decide)) (by decide)) o68 o68Z o68E (kn_nei eh82 (kn_ne eh76 o68K (by decide)) (by decide)) o69 o69Z o69E (kn_nei eh82 (kn_ne eh76 o69K (by decide)) (by decide)) (TP_fr f84 (fun _ => rfl) hy0) (by (first | decide +kernel | omega))) (fun h87 p88 => ?_)
            obtain ⟨hI89, fh87, o91, o91Z, o91E, o91K, o92, o92Z, o92E, o92K, o93, o93Z, o93E, o93K, o94, o94Z, o94E, o94K, o95, o95Z, o95E, o95K, o96, o96Z, o96E, o96K, p88⟩ := p88
            have f90 : fr S_Mod_readFreshX_4 h h87 := fr_call f84 fh87 rfl
            have R97 : RM h87 (x_upT T 1 (x_vl b p0)) D := RM_fr fh87 rfl R85
            have g98 : 0 ≤ o91Z ∧ o91Z ≤ 160 := inv_at hI89 o91E o91K.symm rfl
            have g99 : 0 ≤ o92Z ∧ o92Z ≤ 160 := inv_at hI89 o92E o92K.symm rfl
            replace p88 := p88.resolve_left (fun q => by (first | decide +kernel | omega))
            refine V_iload_n 3 d_Mod_readFresh_90 rfl rfl ?_
            exact V_iret rfl d_Mod_readFresh_91 ⟨z4, rfl, ⟨hI89, f90, o91, o91Z, o91E, o91K, o92, o92Z, o92E, o92K, o93, o93Z, o93E, o93K, o94, o94Z, o94E, o94K, o95, o95Z, o95E, o95K, o96, o96Z, o96E, o96K, ⟨(Or.inr (Or.inr (⟨by (first | decide +kernel | omega), by (first | decide +kernel | omega), by rw [z4E]; omega, (if q9 : o95Z = 0 then Or.inr ⟨q9, by (first | decide +kernel | omega), by (first | decide +kernel | omega), by (first | decide +kernel | omega), by (first | decide +kernel | omega), by (first | decide +kernel | omega), by (first | decide +kernel | omega), by (first | decide +kernel | omega), by (first | decide +kernel | omega), by (first | decide +kernel | omega), by (first | decide +kernel | omega), by (first | decide +kernel | omega)⟩ else Or.inl ⟨by (first | decide +kernel | omega), by (first | decide +kernel | omega), by (first | decide +kernel | omega)⟩), R97⟩))), by (first | decide +kernel | omega), by (first | decide +kernel | omega), by (first | decide +kernel | omega), by rw [z4E]; omega, by rw [z4E]; omega⟩⟩⟩
          ·
            refine V_iload_n 3 d_Mod_readFresh_75 rfl rfl ?_
            refine V_goto 83 d_Mod_readFresh_76 (by decide) ?_
            refine N_putI fp_Mod_78 sk_116 rfl d_Mod_readFresh_83 (fun h100 eh100 => ?_)
            have hI101 : Inv h100 := inv_full hI77 eh100 rfl
            have f102 : fr S_Mod_readFreshX_4 h h100 := fr_put f78 eh100 rfl
            have R103 : RM h100 (x_upT T 1 (x_vl b p0)) D := RM_fresh (l := 1) R70 ⟨by decide, by decide⟩ eh76 (kn_call fh64 (kn_call fh5 zK rfl) rfl) (by (first | decide +kernel | omega)) (z4E.trans (by (first | decide +kernel | omega))) (by assumption) (by assumption) rfl eh100 z4E ((congrArg Int32.toInt (kn_call fh64 (kn_call fh5 iK rfl) rfl)).trans iE) (Or.inl ⟨by decide, by (first | decide +kernel | omega)⟩)
            refine V_aload_n 0 d_Mod_readFresh_86 rfl rfl ?_
            refine N_callVV [] [] cv_Mod_152 sk_116 rfl d_Mod_readFresh_87 rfl (Nat.le_of_ble_eq_true rfl) (by decide) (by decide) (c_Mod_nextX h100 b hI101 s sZ sE (kn_nei eh100 (kn_ne eh76 (kn_call fh64 (kn_call fh5 sK rfl) rfl) (by decide)) (by decide)) p pZ pE (kn_nei eh100 (kn_ne eh76 (kn_call fh64 (kn_call fh5 pK rfl) rfl) (by decide)) (by decide)) g gZ gE (kn_nei eh100 (kn_ne eh76 (kn_call fh64 (kn_call fh5 gK rfl) rfl) (by decide)) (by decide)) k kZ kE (kn_nei eh100 (kn_ne eh76 (kn_call fh64 (kn_call fh5 kK rfl) rfl) (by decide)) (by decide)) v vZ vE (kn_nei eh100 (kn_ne eh76 (kn_call fh64 (kn_call fh5 vK rfl) rfl) (by decide)) (by decide)) o68 o68Z o68E (kn_nei eh100 (kn_ne eh76 o68K (by decide)) (by decide)) o69 o69Z o69E (kn_nei eh100 (kn_ne eh76 o69K (by decide)) (by decide)) (TP_fr f102 (fun _ => rfl) hy0) (by (first | decide +kernel | omega))) (fun h105 p106 => ?_)
            obtain ⟨hI107, fh105, o109, o109Z, o109E, o109K, o110, o110Z, o110E, o110K, o111, o111Z, o111E, o111K, o112, o112Z, o112E, o112K, o113, o113Z, o113E, o113K, o114, o114Z, o114E, o114K, p106⟩ := p106
            have f108 : fr S_Mod_readFreshX_4 h h105 := fr_call f102 fh105 rfl
            have R115 : RM h105 (x_upT T 1 (x_vl b p0)) D := RM_fr fh105 rfl R103
            have g116 : 0 ≤ o109Z ∧ o109Z ≤ 160 := inv_at hI107 o109E o109K.symm rfl
            have g117 : 0 ≤ o110Z ∧ o110Z ≤ 160 := inv_at hI107 o110E o110K.symm rfl
            replace p106 := p106.resolve_left (fun q => by (first | decide +kernel | omega))
            refine V_iload_n 3 d_Mod_readFresh_90 rfl rfl ?_
            exact V_iret rfl d_Mod_readFresh_91 ⟨z4, rfl, ⟨hI107, f108, o109, o109Z, o109E, o109K, o110, o110Z, o110E, o110K, o111, o111Z, o111E, o111K, o112, o112Z, o112E, o112K, o113, o113Z, o113E, o113K, o114, o114Z, o114E, o114K, ⟨(Or.inr (Or.inr (⟨by (first | decide +kernel | omega), by (first | decide +kernel | omega), by rw [z4E]; omega, (if q9 : o113Z = 0 then Or.inr ⟨q9, by (first | decide +kernel | omega), by (first | decide +kernel | omega), by (first | decide +kernel | omega), by (first | decide +kernel | omega), by (first | decide +kernel | omega), by (first | decide +kernel | omega), by (first | decide +kernel | omega), by (first | decide +kernel | omega), by (first | decide +kernel | omega), by (first | decide +kernel | omega), by (first | decide +kernel | omega)⟩ else Or.inl ⟨by (first | decide +kernel | omega), by (first | decide +kernel | omega), by (first | decide +kernel | omega)⟩), R115⟩))), by (first | decide +kernel | omega), by (first | decide +kernel | omega), by (first | decide +kernel | omega), by rw [z4E]; omega, by rw [z4E]; omega⟩⟩⟩
def S_Mod_readFreshX_5 : List (Nat × Option Nat) := [(116, some 16), (116, some 17), (116, some 18), (116, some 19), (116, some 20), (116, some 21), (120, some 1), (116, some 13)]
abbrev q_Mod_readFreshX_5 (h : Hp) (b : Int → Int) (T : Nat → Int → Int) (D : Nat → Int) (p0 : Int) (s : Int32) (sZ : Int) (p : Int32) (pZ : Int) (g : Int32) (gZ : Int) (k : Int32) (kZ : Int) (v : Int32) (vZ : Int) (w : Int32) (wZ : Int) (a : Int32) (aZ : Int) (z : Int32) (zZ : Int) (i : Int32) (iZ : Int) : Option Value → Hp → Prop := pInt (fun r h' => Inv h' ∧ fr S_Mod_readFreshX_5 h h' ∧ ∃ (q : Int32) (qZ : Int), q.toInt = qZ ∧ h'.1 116 16 = q ∧ ∃ (f : Int32) (fZ : Int), f.toInt = fZ ∧ h'.1 116 17 = f ∧ ∃ (m : Int32) (mZ : Int), m.toInt = mZ ∧ h'.1 116 18 = m ∧ ∃ (x : Int32) (xZ : Int), x.toInt = xZ ∧ h'.1 116 19 = x ∧ ∃ (u : Int32) (uZ : Int), u.toInt = uZ ∧ h'.1 116 20 = u ∧ ∃ (y : Int32) (yZ : Int), y.toInt = yZ ∧ h'.1 116 21 = y ∧ ((x_cN b p0 0 15 ≠ 0 ∧ uZ = x_cN b p0 0 15 ∧ yZ = x_fr b p0 ∨ x_cN b p0 0 15 = 0 ∧ x_c4 (T 2 (x_vl b p0)) ≠ 0 ∧ uZ = 4 ∧ yZ = x_fr b p0 ∨ x_cN b p0 0 15 = 0 ∧ x_c4 (T 2 (x_vl b p0)) = 0 ∧ r.toInt = x_vl b p0 ∧ (uZ = 1 ∧ x_kd b (x_en b p0) = 4 ∧ yZ = x_fr b (x_en b p0) ∨ uZ = 0 ∧ fZ = x_fr b (x_en b p0) ∧ mZ = x_kd b (x_en b p0) ∧ mZ ≠ 4 ∧ 0 ≤ mZ ∧ mZ ≤ 3 ∧ qZ = x_en b (x_en b p0) ∧ (mZ ≠ 2 ∨ xZ = x_vl b (x_en b p0) ∧ 0 ≤ xZ ∧ xZ ≤ 99) ∧ (x_en b p0) ≤ fZ ∧ fZ ≤ qZ ∧ qZ ≤ sZ ∧ (mZ = 0 ∨ fZ < qZ)) ∧ RM h' (x_upT T 2 (x_vl b p0)) D) ∧ 0 ≤ qZ ∧ qZ ≤ sZ ∧ 0 ≤ uZ ∧ 0 ≤ r.toInt ∧ r.toInt ≤ 15))
set_option maxRecDepth 100000 in
theorem c_Mod_readFreshX_5 (h : Hp) (b : Int → Int) (T : Nat → Int → Int) (D : Nat → Int) (p0 : Int) (hI : Inv h) (s : Int32) (sZ : Int) (sE : s.toInt = sZ) (sK : h.1 116 15 = s) (p : Int32) (pZ : Int) (pE : p.toInt = pZ) (pK : h.1 116 16 = p) (g : Int32) (gZ : Int) (gE : g.toInt = gZ) (gK : h.1 116 17 = g) (k : Int32) (kZ : Int) (kE : k.toInt = kZ) (kK : h.1 116 18 = k) (v : Int32) (vZ : Int) (vE : v.toInt = vZ) (vK : h.1 116 19 = v) (w : Int32) (wZ : Int) (wE : w.toInt = wZ) (wK : h.1 116 20 = w) (a : Int32) (aZ : Int) (aE : a.toInt = aZ) (aK : h.1 116 21 = a) (z : Int32) (zZ : Int) (zE : z.toInt = zZ) (zK : h.1 120 1 = z) (i : Int32) (iZ : Int) (iE : i.toInt = iZ) (iK : h.1 116 13 = i) (hy0 : TP h 121 sZ b) (hy1 : 0 ≤ pZ ∧ pZ ≤ sZ ∧ wZ = 0) (hy2 : gZ = x_fr b p0 ∧ kZ = x_kd b p0 ∧ kZ ≠ 4 ∧ 0 ≤ kZ ∧ kZ ≤ 3 ∧ pZ = x_en b p0 ∧ (kZ ≠ 2 ∨ vZ = x_vl b p0 ∧ 0 ≤ vZ ∧ vZ ≤ 99) ∧ p0 ≤ gZ ∧ gZ ≤ pZ ∧ pZ ≤ sZ ∧ (kZ = 0 ∨ gZ < pZ)) (hy3 : RM h T D) : Ct y_Mod_readFresh b_Mod_readFresh 4 (some .int) 2 47 [.ref 116, .int 5, .int 15] h (q_Mod_readFreshX_5 h b T D p0 s sZ p pZ g gZ k kZ v vZ w wZ a aZ z zZ i iZ) := by
  refine ct_ow R_Mod [some (.ref 116), some (.int 5), some (.int 15), none] rfl (by decide) rfl (Nat.le_of_ble_eq_true rfl) ?_
  have f0 : fr S_Mod_readFreshX_5 h h := fr_rf
  have g1 : 0 ≤ sZ ∧ sZ ≤ 160 := inv_at hI sE sK.symm rfl
  have g2 : 0 ≤ pZ ∧ pZ ≤ 160 := inv_at hI pE pK.symm rfl
  have g3 : 0 ≤ gZ ∧ gZ ≤ 160 := inv_at hI gE gK.symm rfl
  refine V_aload_n 0 d_Mod_readFresh_0 rfl rfl ?_
  refine V_iconst 0 d_Mod_readFresh_1 (by decide) ?_
  refine V_iload_n 2 d_Mod_readFresh_2 rfl rfl ?_
  refine N_callVI [.int 0, .int 15] [] cv_Mod_148 sk_116 rfl d_Mod_readFresh_3 rfl (Nat.le_of_ble_eq_true rfl) (by decide) (by decide) (c_Mod_lookedX h hI 0 0 tc_0 15 15 tc_15 g gZ gE gK k kZ kE kK v vZ vE vK w wZ wE wK a aZ aE aK) (fun z4 h5 z4Z z4E p6 => ?_)
  obtain ⟨hI7, fh5, o9, o9Z, o9E, o9K, o10, o10Z, o10E, o10K, p6⟩ := p6
  have f8 : fr S_Mod_readFreshX_5 h h5 := fr_call f0 fh5 rfl
  have R11 : RM h5 T D := RM_fr fh5 rfl hy3
  refine V_istore_n 3 [some (.ref 116), some (.int 5), some (.int 15), some (.int z4)] d_Mod_readFresh_6 rfl (by decide) rfl rfl ?_
  replace p6 := lk_all hy2 hy1.2.2 p6
  replace hy2 := lx_s hy2
  have g12 : x_fr b pZ = x_fr b (x_en b p0) := congrArg (x_fr b) (by (first | decide +kernel | omega))
  have g13 : x_kd b pZ = x_kd b (x_en b p0) := congrArg (x_kd b) (by (first | decide +kernel | omega))
  have g14 : x_en b pZ = x_en b (x_en b p0) := congrArg (x_en b) (by (first | decide +kernel | omega))
  have g15 : x_vl b pZ = x_vl b (x_en b p0) := congrArg (x_vl b) (by (first | decide +kernel | omega))
  refine V_aload_n 0 d_Mod_readFresh_7 rfl rfl ?_
  refine N_getK fa_Mod_102 sk_116 rfl d_Mod_readFresh_8 o9K ?_
  refine V_if_ne 39 o9E d_Mod_readFresh_11 (by decide) (fun c16 => ?_) (fun c16 => ?_)
  ·
    replace p6 := And.intro p6.1 (p6.2.resolve_right (fun q => by (first | decide +kernel | omega)))
    refine V_aload_n 0 d_Mod_readFresh_39 rfl rfl ?_
    refine N_getK fa_Mod_102 sk_116 rfl d_Mod_readFresh_40 o9K ?_
    refine V_if_ne 86 o9E d_Mod_readFresh_43 (by decide) (fun c17 => ?_) (fun c17 => ?_)
    ·
      refine V_aload_n 0 d_Mod_readFresh_86 rfl rfl ?_
      refine N_callVV [] [] cv_Mod_152 sk_116 rfl d_Mod_readFresh_87 rfl (Nat.le_of_ble_eq_true rfl) (by decide) (by decide) (c_Mod_nextX h5 b hI7 s sZ sE (kn_call fh5 sK rfl) p pZ pE (kn_call fh5 pK rfl) g gZ gE (kn_call fh5 gK rfl) k kZ kE (kn_call fh5 kK rfl) v vZ vE (kn_call fh5 vK rfl) o9 o9Z o9E o9K o10 o10Z o10E o10K (TP_fr f8 (fun _ => rfl) hy0) (by (first | decide +kernel | omega))) (fun h19 p20 => ?_)
      obtain ⟨hI21, fh19, o23, o23Z, o23E, o23K, o24, o24Z, o24E, o24K, o25, o25Z, o25E, o25K, o26, o26Z, o26E, o26K, o27, o27Z, o27E, o27K, o28, o28Z, o28E, o28K, p20⟩ := p20
      have f22 : fr S_Mod_readFreshX_5 h h19 := fr_call f8 fh19 rfl
      have R29 : RM h19 T D := RM_fr fh19 rfl R11
      have g30 : 0 ≤ o23Z ∧ o23Z ≤ 160 := inv_at hI21 o23E o23K.symm rfl
      have g31 : 0 ≤ o24Z ∧ o24Z ≤ 160 := inv_at hI21 o24E o24K.symm rfl
      replace p20 := p20.resolve_right (fun q => by (first | decide +kernel | omega))
      refine V_iload_n 3 d_Mod_readFresh_90 rfl rfl ?_
      exact V_iret rfl d_Mod_readFresh_91 ⟨z4, rfl, ⟨hI21, f22, o23, o23Z, o23E, o23K, o24, o24Z, o24E, o24K, o25, o25Z, o25E, o25K, o26, o26Z, o26E, o26K, o27, o27Z, o27E, o27K, o28, o28Z, o28E, o28K, ⟨(Or.inl (⟨by (first | decide +kernel | omega), by (first | decide +kernel | omega), by (first | decide +kernel | omega)⟩)), by (first | decide +kernel | omega), by (first | decide +kernel | omega), by (first | decide +kernel | omega), by rw [z4E]; omega, by rw [z4E]; omega⟩⟩⟩
    ·
      exact absurd c17 (by (first | decide +kernel | omega))
  ·
    replace p6 := And.intro p6.1 (p6.2.resolve_left (fun q => by (first | decide +kernel | omega)))
    refine V_aload_n 0 d_Mod_readFresh_14 rfl rfl ?_
    refine V_aload_n 0 d_Mod_readFresh_15 rfl rfl ?_
    refine V_getR fa_Mod_20 sk_116 rfl d_Mod_readFresh_16 ?_
    refine V_iload_n 1 d_Mod_readFresh_19 rfl rfl ?_
    refine V_iconst 4 d_Mod_readFresh_20 (by decide) ?_
    refine V_isubw d_Mod_readFresh_21 (fun z32 z32e => ?_)
    obtain rfl : z32 = 1 := z32e.trans (by decide)
    refine N_ialdK sk_120 tc_1 (by (first | decide +kernel | omega)) d_Mod_readFresh_22 (kn_call fh5 zK rfl) ?_
    refine V_iload_n 3 d_Mod_readFresh_23 rfl rfl ?_
    refine N_ishr d_Mod_readFresh_24 (fun z34 z34Z z34E z34e => ?_)
    refine V_iconst 1 d_Mod_readFresh_25 (by decide) ?_
    refine N_iand d_Mod_readFresh_26 (fun z35 z35Z z35E z35e => ?_)
    have g36 : z35Z = T 2 z4Z := x_bt_of (RM_had R11 (by decide) (by decide) (kn_call fh5 zK rfl)) (by (first | decide +kernel | omega)) (by (first | decide +kernel | omega)) z4E z35E (by assumption) (by assumption)
    have g37 : T 2 z4Z = T 2 (x_vl b p0) := congrArg (T 2) (by (first | decide +kernel | omega))
    have g38 := x_c4_s (T 2 (x_vl b p0))
    refine V_if_ne 34 z35E d_Mod_readFresh_27 (by decide) (fun c39 => ?_) (fun c39 => ?_)
    ·
      replace g38 := g38.resolve_left (fun q => by (first | decide +kernel | omega))
      refine V_iconst 0 d_Mod_readFresh_34 (by decide) ?_
      refine V_iconst 4 d_Mod_readFresh_35 (by decide) ?_
      refine N_callVV [.int 0, .int 4] [] cv_Mod_144 sk_116 rfl d_Mod_readFresh_36 rfl (Nat.le_of_ble_eq_true rfl) (by decide) (by decide) (c_Mod_needsX h5 hI7 0 0 tc_0 4 4 tc_4 g gZ gE (kn_call fh5 gK rfl) o9 o9Z o9E o9K o10 o10Z o10E o10K) (fun h41 p42 => ?_)
      obtain ⟨hI43, fh41, o45, o45Z, o45E, o45K, o46, o46Z, o46E, o46K, p42⟩ := p42
      have f44 : fr S_Mod_readFreshX_5 h h41 := fr_call f8 fh41 rfl
      have R47 : RM h41 T D := RM_fr fh41 rfl R11
      replace p42 := (p42.resolve_left (by (first | decide +kernel | omega))).2.2
      refine V_aload_n 0 d_Mod_readFresh_39 rfl rfl ?_
      refine N_getK fa_Mod_102 sk_116 rfl d_Mod_readFresh_40 o45K ?_
      refine V_if_ne 86 o45E d_Mod_readFresh_43 (by decide) (fun c48 => ?_) (fun c48 => ?_)
      ·
        refine V_aload_n 0 d_Mod_readFresh_86 rfl rfl ?_
        refine N_callVV [] [] cv_Mod_152 sk_116 rfl d_Mod_readFresh_87 rfl (Nat.le_of_ble_eq_true rfl) (by decide) (by decide) (c_Mod_nextX h41 b hI43 s sZ sE (kn_call fh41 (kn_call fh5 sK rfl) rfl) p pZ pE (kn_call fh41 (kn_call fh5 pK rfl) rfl) g gZ gE (kn_call fh41 (kn_call fh5 gK rfl) rfl) k kZ kE (kn_call fh41 (kn_call fh5 kK rfl) rfl) v vZ vE (kn_call fh41 (kn_call fh5 vK rfl) rfl) o45 o45Z o45E o45K o46 o46Z o46E o46K (TP_fr f44 (fun _ => rfl) hy0) (by (first | decide +kernel | omega))) (fun h50 p51 => ?_)
        obtain ⟨hI52, fh50, o54, o54Z, o54E, o54K, o55, o55Z, o55E, o55K, o56, o56Z, o56E, o56K, o57, o57Z, o57E, o57K, o58, o58Z, o58E, o58K, o59, o59Z, o59E, o59K, p51⟩ := p51
        have f53 : fr S_Mod_readFreshX_5 h h50 := fr_call f44 fh50 rfl
        have R60 : RM h50 T D := RM_fr fh50 rfl R47
        have g61 : 0 ≤ o54Z ∧ o54Z ≤ 160 := inv_at hI52 o54E o54K.symm rfl
        have g62 : 0 ≤ o55Z ∧ o55Z ≤ 160 := inv_at hI52 o55E o55K.symm rfl
        replace p51 := p51.resolve_right (fun q => by (first | decide +kernel | omega))
        refine V_iload_n 3 d_Mod_readFresh_90 rfl rfl ?_
        exact V_iret rfl d_Mod_readFresh_91 ⟨z4, rfl, ⟨hI52, f53, o54, o54Z, o54E, o54K, o55, o55Z, o55E, o55K, o56, o56Z, o56E, o56K, o57, o57Z, o57E, o57K, o58, o58Z, o58E, o58K, o59, o59Z, o59E, o59K, ⟨(Or.inr (Or.inl (⟨by (first | decide +kernel | omega), by (first | decide +kernel | omega), by (first | decide +kernel | omega), by (first | decide +kernel | omega)⟩))), by (first | decide +kernel | omega), by (first | decide +kernel | omega), by (first | decide +kernel | omega), by rw [z4E]; omega, by rw [z4E]; omega⟩⟩⟩
      ·
        exact absurd c48 (by (first | decide +kernel | omega))
    ·
      replace g38 := g38.resolve_right (fun q => by (first | decide +kernel | omega))
      refine V_iconst 1 d_Mod_readFresh_30 (by decide) ?_
      refine V_goto 35 d_Mod_readFresh_31 (by decide) ?_
      refine V_iconst 4 d_Mod_readFresh_35 (by decide) ?_
      refine N_callVV [.int 1, .int 4] [] cv_Mod_144 sk_116 rfl d_Mod_readFresh_36 rfl (Nat.le_of_ble_eq_true rfl) (by decide) (by decide) (c_Mod_needsX h5 hI7 1 1 tc_1 4 4 tc_4 g gZ gE (kn_call fh5 gK rfl) o9 o9Z o9E o9K o10 o10Z o10E o10K) (fun h64 p65 => ?_)
      obtain ⟨hI66, fh64, o68, o68Z, o68E, o68K, o69, o69Z, o69E, o69K, p65⟩ := p65
      have f67 : fr S_Mod_readFreshX_5 h h64 := fr_call f8 fh64 rfl
      have R70 : RM h64 T D := RM_fr fh64 rfl R11
      replace p65 := (p65.resolve_right (by (first | decide +kernel | omega))).2
      refine V_aload_n 0 d_Mod_readFresh_39 rfl rfl ?_
      refine N_getK fa_Mod_102 sk_116 rfl d_Mod_readFresh_40 o68K ?_
      refine V_if_ne 86 o68E d_Mod_readFresh_43 (by decide) (fun c71 => ?_) (fun c71 => ?_)
      ·
        exact absurd c71 (by (first | decide +kernel | omega))
      ·
        refine V_aload_n 0 d_Mod_readFresh_46 rfl rfl ?_
        refine V_getR fa_Mod_20 sk_116 rfl d_Mod_readFresh_47 ?_
        refine V_iload_n 1 d_Mod_readFresh_50 rfl rfl ?_
        refine V_iconst 4 d_Mod_readFresh_51 (by decide) ?_
        refine V_isubw d_Mod_readFresh_52 (fun z72 z72e => ?_)
        obtain rfl : z72 = 1 := z72e.trans (by decide)
        refine V_dup2 d_Mod_readFresh_53 rfl rfl ?_
        refine N_ialdK sk_120 tc_1 (by (first | decide +kernel | omega)) d_Mod_readFresh_54 (kn_call fh64 (kn_call fh5 zK rfl) rfl) ?_
        refine V_iconst 1 d_Mod_readFresh_55 (by decide) ?_
        refine V_iload_n 3 d_Mod_readFresh_56 rfl rfl ?_
        refine N_ishl d_Mod_readFresh_57 (fun z74 z74Z z74E z74e => ?_)
        refine N_ior d_Mod_readFresh_58 (fun z75 z75Z z75E z75e => ?_)
        refine N_iast sk_120 tc_1 (by (first | decide +kernel | omega)) d_Mod_readFresh_59 (fun h76 eh76 => ?_)
        have hI77 : Inv h76 := inv_full hI66 eh76 rfl
        have f78 : fr S_Mod_readFreshX_5 h h76 := fr_put f67 eh76 rfl
        refine V_aload_n 0 d_Mod_readFresh_60 rfl rfl ?_
        refine V_iload_n 1 d_Mod_readFresh_61 rfl rfl ?_
        refine V_bipush 8 d_Mod_readFresh_62 (by decide) ?_
        refine V_icmp_ge 79 tc_5 tc_8 d_Mod_readFresh_64 (by decide) (fun c80 => ?_) (fun c80 => ?_)
        ·
          exact absurd c80 (by decide)
        ·
          refine V_iload_n 3 d_Mod_readFresh_67 rfl rfl ?_
          refine V_aload_n 0 d_Mod_readFresh_68 rfl rfl ?_
          refine N_getK fa_Mod_78 sk_116 rfl d_Mod_readFresh_69 (kn_ne eh76 (kn_call fh64 (kn_call fh5 iK rfl) rfl) (by decide)) ?_
          refine V_icmp_le 79 z4E iE d_Mod_readFresh_72 (by decide) (fun c81 => ?_) (fun c81 => ?_)
          ·
            refine V_aload_n 0 d_Mod_readFresh_79 rfl rfl ?_
            refine N_getK fa_Mod_78 sk_116 rfl d_Mod_readFresh_80 (kn_ne eh76 (kn_call fh64 (kn_call fh5 iK rfl) rfl) (by decide)) ?_
            refine N_putI fp_Mod_78 sk_116 rfl d_Mod_readFresh_83 (fun h82 eh82 => ?_)
            have hI83 : Inv h82 := inv_full hI77 eh82 rfl
            have f84 : fr S_Mod_readFreshX_5 h h82 := fr_put f78 eh82 rfl
            have R85 : RM h82 (x_upT T 2 (x_vl b p0)) D := RM_fresh (l := 2) R70 ⟨by decide, by decide⟩ eh76 (kn_call fh64 (kn_call fh5 zK rfl) rfl) (by (first | decide +kernel | omega)) (z4E.trans (by (first | decide +kernel | omega))) (by assumption) (by assumption) rfl eh82 iE ((congrArg Int32.toInt (kn_call fh64 (kn_call fh5 iK rfl) rfl)).trans iE) (Or.inl ⟨by decide, by (first | decide +kernel | omega)⟩)
            refine V_aload_n 0 d_Mod_readFresh_86 rfl rfl ?_
            refine N_callVV [] [] cv_Mod_152 sk_116 rfl d_Mod_readFresh_87 rfl (Nat.le_of_ble_eq_true rfl) (by decide) (by decide) (c_Mod_nextX h82 b hI83 s sZ sE (kn_nei eh82 (kn_ne eh76 (kn_call fh64 (kn_call fh5 sK rfl) rfl) (by decide)) (by decide)) p pZ pE (kn_nei eh82 (kn_ne eh76 (kn_call fh64 (kn_call fh5 pK rfl) rfl) (by decide)) (by decide)) g gZ gE (kn_nei eh82 (kn_ne eh76 (kn_call fh64 (kn_call fh5 gK rfl) rfl) (by decide)) (by decide)) k kZ kE (kn_nei eh82 (kn_ne eh76 (kn_call fh64 (kn_call fh5 kK rfl) rfl) (by decide)) (by decide)) v vZ vE (kn_nei eh82 (kn_ne eh76 (kn_call fh64 (kn_call fh5 vK rfl) rfl) (by decide)) (by decide)) o68 o68Z o68E (kn_nei eh82 (kn_ne eh76 o68K (by decide)) (by decide)) o69 o69Z o69E (kn_nei eh82 (kn_ne eh76 o69K (by decide)) (by decide)) (TP_fr f84 (fun _ => rfl) hy0) (by (first | decide +kernel | omega))) (fun h87 p88 => ?_)
            obtain ⟨hI89, fh87, o91, o91Z, o91E, o91K, o92, o92Z, o92E, o92K, o93, o93Z, o93E, o93K, o94, o94Z, o94E, o94K, o95, o95Z, o95E, o95K, o96, o96Z, o96E, o96K, p88⟩ := p88
            have f90 : fr S_Mod_readFreshX_5 h h87 := fr_call f84 fh87 rfl
            have R97 : RM h87 (x_upT T 2 (x_vl b p0)) D := RM_fr fh87 rfl R85
            have g98 : 0 ≤ o91Z ∧ o91Z ≤ 160 := inv_at hI89 o91E o91K.symm rfl
            have g99 : 0 ≤ o92Z ∧ o92Z ≤ 160 := inv_at hI89 o92E o92K.symm rfl
            replace p88 := p88.resolve_left (fun q => by (first | decide +kernel | omega))
            refine V_iload_n 3 d_Mod_readFresh_90 rfl rfl ?_
            exact V_iret rfl d_Mod_readFresh_91 ⟨z4, rfl, ⟨hI89, f90, o91, o91Z, o91E, o91K, o92, o92Z, o92E, o92K, o93, o93Z, o93E, o93K, o94, o94Z, o94E, o94K, o95, o95Z, o95E, o95K, o96, o96Z, o96E, o96K, ⟨(Or.inr (Or.inr (⟨by (first | decide +kernel | omega), by (first | decide +kernel | omega), by rw [z4E]; omega, (if q9 : o95Z = 0 then Or.inr ⟨q9, by (first | decide +kernel | omega), by (first | decide +kernel | omega), by (first | decide +kernel | omega), by (first | decide +kernel | omega), by (first | decide +kernel | omega), by (first | decide +kernel | omega), by (first | decide +kernel | omega), by (first | decide +kernel | omega), by (first | decide +kernel | omega), by (first | decide +kernel | omega), by (first | decide +kernel | omega)⟩ else Or.inl ⟨by (first | decide +kernel | omega), by (first | decide +kernel | omega), by (first | decide +kernel | omega)⟩), R97⟩))), by (first | decide +kernel | omega), by (first | decide +kernel | omega), by (first | decide +kernel | omega), by rw [z4E]; omega, by rw [z4E]; omega⟩⟩⟩
          ·
            refine V_iload_n 3 d_Mod_readFresh_75 rfl rfl ?_
            refine V_goto 83 d_Mod_readFresh_76 (by decide) ?_
            refine N_putI fp_Mod_78 sk_116 rfl d_Mod_readFresh_83 (fun h100 eh100 => ?_)
            have hI101 : Inv h100 := inv_full hI77 eh100 rfl
            have f102 : fr S_Mod_readFreshX_5 h h100 := fr_put f78 eh100 rfl
            have R103 : RM h100 (x_upT T 2 (x_vl b p0)) D := RM_fresh (l := 2) R70 ⟨by decide, by decide⟩ eh76 (kn_call fh64 (kn_call fh5 zK rfl) rfl) (by (first | decide +kernel | omega)) (z4E.trans (by (first | decide +kernel | omega))) (by assumption) (by assumption) rfl eh100 z4E ((congrArg Int32.toInt (kn_call fh64 (kn_call fh5 iK rfl) rfl)).trans iE) (Or.inl ⟨by decide, by (first | decide +kernel | omega)⟩)
            refine V_aload_n 0 d_Mod_readFresh_86 rfl rfl ?_
            refine N_callVV [] [] cv_Mod_152 sk_116 rfl d_Mod_readFresh_87 rfl (Nat.le_of_ble_eq_true rfl) (by decide) (by decide) (c_Mod_nextX h100 b hI101 s sZ sE (kn_nei eh100 (kn_ne eh76 (kn_call fh64 (kn_call fh5 sK rfl) rfl) (by decide)) (by decide)) p pZ pE (kn_nei eh100 (kn_ne eh76 (kn_call fh64 (kn_call fh5 pK rfl) rfl) (by decide)) (by decide)) g gZ gE (kn_nei eh100 (kn_ne eh76 (kn_call fh64 (kn_call fh5 gK rfl) rfl) (by decide)) (by decide)) k kZ kE (kn_nei eh100 (kn_ne eh76 (kn_call fh64 (kn_call fh5 kK rfl) rfl) (by decide)) (by decide)) v vZ vE (kn_nei eh100 (kn_ne eh76 (kn_call fh64 (kn_call fh5 vK rfl) rfl) (by decide)) (by decide)) o68 o68Z o68E (kn_nei eh100 (kn_ne eh76 o68K (by decide)) (by decide)) o69 o69Z o69E (kn_nei eh100 (kn_ne eh76 o69K (by decide)) (by decide)) (TP_fr f102 (fun _ => rfl) hy0) (by (first | decide +kernel | omega))) (fun h105 p106 => ?_)
            obtain ⟨hI107, fh105, o109, o109Z, o109E, o109K, o110, o110Z, o110E, o110K, o111, o111Z, o111E, o111K, o112, o112Z, o112E, o112K, o113, o113Z, o113E, o113K, o114, o114Z, o114E, o114K, p106⟩ := p106
            have f108 : fr S_Mod_readFreshX_5 h h105 := fr_call f102 fh105 rfl
            have R115 : RM h105 (x_upT T 2 (x_vl b p0)) D := RM_fr fh105 rfl R103
            have g116 : 0 ≤ o109Z ∧ o109Z ≤ 160 := inv_at hI107 o109E o109K.symm rfl
            have g117 : 0 ≤ o110Z ∧ o110Z ≤ 160 := inv_at hI107 o110E o110K.symm rfl
            replace p106 := p106.resolve_left (fun q => by (first | decide +kernel | omega))
            refine V_iload_n 3 d_Mod_readFresh_90 rfl rfl ?_
            exact V_iret rfl d_Mod_readFresh_91 ⟨z4, rfl, ⟨hI107, f108, o109, o109Z, o109E, o109K, o110, o110Z, o110E, o110K, o111, o111Z, o111E, o111K, o112, o112Z, o112E, o112K, o113, o113Z, o113E, o113K, o114, o114Z, o114E, o114K, ⟨(Or.inr (Or.inr (⟨by (first | decide +kernel | omega), by (first | decide +kernel | omega), by rw [z4E]; omega, (if q9 : o113Z = 0 then Or.inr ⟨q9, by (first | decide +kernel | omega), by (first | decide +kernel | omega), by (first | decide +kernel | omega), by (first | decide +kernel | omega), by (first | decide +kernel | omega), by (first | decide +kernel | omega), by (first | decide +kernel | omega), by (first | decide +kernel | omega), by (first | decide +kernel | omega), by (first | decide +kernel | omega), by (first | decide +kernel | omega)⟩ else Or.inl ⟨by (first | decide +kernel | omega), by (first | decide +kernel | omega), by (first | decide +kernel | omega)⟩), R115⟩))), by (first | decide +kernel | omega), by (first | decide +kernel | omega), by (first | decide +kernel | omega), by rw [z4E]; omega, by rw [z4E]; omega⟩⟩⟩
def S_Mod_readFreshX_6 : List (Nat × Option Nat) := [(116, some 16), (116, some 17), (116, some 18), (116, some 19), (116, some 20), (116, some 21), (120, some 2), (116, some 13)]
abbrev q_Mod_readFreshX_6 (h : Hp) (b : Int → Int) (T : Nat → Int → Int) (D : Nat → Int) (p0 : Int) (s : Int32) (sZ : Int) (p : Int32) (pZ : Int) (g : Int32) (gZ : Int) (k : Int32) (kZ : Int) (v : Int32) (vZ : Int) (w : Int32) (wZ : Int) (a : Int32) (aZ : Int) (z : Int32) (zZ : Int) (i : Int32) (iZ : Int) : Option Value → Hp → Prop := pInt (fun r h' => Inv h' ∧ fr S_Mod_readFreshX_6 h h' ∧ ∃ (q : Int32) (qZ : Int), q.toInt = qZ ∧ h'.1 116 16 = q ∧ ∃ (f : Int32) (fZ : Int), f.toInt = fZ ∧ h'.1 116 17 = f ∧ ∃ (m : Int32) (mZ : Int), m.toInt = mZ ∧ h'.1 116 18 = m ∧ ∃ (x : Int32) (xZ : Int), x.toInt = xZ ∧ h'.1 116 19 = x ∧ ∃ (u : Int32) (uZ : Int), u.toInt = uZ ∧ h'.1 116 20 = u ∧ ∃ (y : Int32) (yZ : Int), y.toInt = yZ ∧ h'.1 116 21 = y ∧ ((x_cN b p0 0 15 ≠ 0 ∧ uZ = x_cN b p0 0 15 ∧ yZ = x_fr b p0 ∨ x_cN b p0 0 15 = 0 ∧ x_c4 (T 3 (x_vl b p0)) ≠ 0 ∧ uZ = 4 ∧ yZ = x_fr b p0 ∨ x_cN b p0 0 15 = 0 ∧ x_c4 (T 3 (x_vl b p0)) = 0 ∧ r.toInt = x_vl b p0 ∧ (uZ = 1 ∧ x_kd b (x_en b p0) = 4 ∧ yZ = x_fr b (x_en b p0) ∨ uZ = 0 ∧ fZ = x_fr b (x_en b p0) ∧ mZ = x_kd b (x_en b p0) ∧ mZ ≠ 4 ∧ 0 ≤ mZ ∧ mZ ≤ 3 ∧ qZ = x_en b (x_en b p0) ∧ (mZ ≠ 2 ∨ xZ = x_vl b (x_en b p0) ∧ 0 ≤ xZ ∧ xZ ≤ 99) ∧ (x_en b p0) ≤ fZ ∧ fZ ≤ qZ ∧ qZ ≤ sZ ∧ (mZ = 0 ∨ fZ < qZ)) ∧ RM h' (x_upT T 3 (x_vl b p0)) D) ∧ 0 ≤ qZ ∧ qZ ≤ sZ ∧ 0 ≤ uZ ∧ 0 ≤ r.toInt ∧ r.toInt ≤ 15))
set_option maxRecDepth 100000 in
theorem c_Mod_readFreshX_6 (h : Hp) (b : Int → Int) (T : Nat → Int → Int) (D : Nat → Int) (p0 : Int) (hI : Inv h) (s : Int32) (sZ : Int) (sE : s.toInt = sZ) (sK : h.1 116 15 = s) (p : Int32) (pZ : Int) (pE : p.toInt = pZ) (pK : h.1 116 16 = p) (g : Int32) (gZ : Int) (gE : g.toInt = gZ) (gK : h.1 116 17 = g) (k : Int32) (kZ : Int) (kE : k.toInt = kZ) (kK : h.1 116 18 = k) (v : Int32) (vZ : Int) (vE : v.toInt = vZ) (vK : h.1 116 19 = v) (w : Int32) (wZ : Int) (wE : w.toInt = wZ) (wK : h.1 116 20 = w) (a : Int32) (aZ : Int) (aE : a.toInt = aZ) (aK : h.1 116 21 = a) (z : Int32) (zZ : Int) (zE : z.toInt = zZ) (zK : h.1 120 2 = z) (i : Int32) (iZ : Int) (iE : i.toInt = iZ) (iK : h.1 116 13 = i) (hy0 : TP h 121 sZ b) (hy1 : 0 ≤ pZ ∧ pZ ≤ sZ ∧ wZ = 0) (hy2 : gZ = x_fr b p0 ∧ kZ = x_kd b p0 ∧ kZ ≠ 4 ∧ 0 ≤ kZ ∧ kZ ≤ 3 ∧ pZ = x_en b p0 ∧ (kZ ≠ 2 ∨ vZ = x_vl b p0 ∧ 0 ≤ vZ ∧ vZ ≤ 99) ∧ p0 ≤ gZ ∧ gZ ≤ pZ ∧ pZ ≤ sZ ∧ (kZ = 0 ∨ gZ < pZ)) (hy3 : RM h T D) : Ct y_Mod_readFresh b_Mod_readFresh 4 (some .int) 2 47 [.ref 116, .int 6, .int 15] h (q_Mod_readFreshX_6 h b T D p0 s sZ p pZ g gZ k kZ v vZ w wZ a aZ z zZ i iZ) := by
  refine ct_ow R_Mod [some (.ref 116), some (.int 6), some (.int 15), none] rfl (by decide) rfl (Nat.le_of_ble_eq_true rfl) ?_
  have f0 : fr S_Mod_readFreshX_6 h h := fr_rf
  have g1 : 0 ≤ sZ ∧ sZ ≤ 160 := inv_at hI sE sK.symm rfl
  have g2 : 0 ≤ pZ ∧ pZ ≤ 160 := inv_at hI pE pK.symm rfl
  have g3 : 0 ≤ gZ ∧ gZ ≤ 160 := inv_at hI gE gK.symm rfl
  refine V_aload_n 0 d_Mod_readFresh_0 rfl rfl ?_
  refine V_iconst 0 d_Mod_readFresh_1 (by decide) ?_
  refine V_iload_n 2 d_Mod_readFresh_2 rfl rfl ?_
  refine N_callVI [.int 0, .int 15] [] cv_Mod_148 sk_116 rfl d_Mod_readFresh_3 rfl (Nat.le_of_ble_eq_true rfl) (by decide) (by decide) (c_Mod_lookedX h hI 0 0 tc_0 15 15 tc_15 g gZ gE gK k kZ kE kK v vZ vE vK w wZ wE wK a aZ aE aK) (fun z4 h5 z4Z z4E p6 => ?_)
  obtain ⟨hI7, fh5, o9, o9Z, o9E, o9K, o10, o10Z, o10E, o10K, p6⟩ := p6
  have f8 : fr S_Mod_readFreshX_6 h h5 := fr_call f0 fh5 rfl
  have R11 : RM h5 T D := RM_fr fh5 rfl hy3
  refine V_istore_n 3 [some (.ref 116), some (.int 6), some (.int 15), some (.int z4)] d_Mod_readFresh_6 rfl (by decide) rfl rfl ?_
  replace p6 := lk_all hy2 hy1.2.2 p6
  replace hy2 := lx_s hy2
  have g12 : x_fr b pZ = x_fr b (x_en b p0) := congrArg (x_fr b) (by (first | decide +kernel | omega))
  have g13 : x_kd b pZ = x_kd b (x_en b p0) := congrArg (x_kd b) (by (first | decide +kernel | omega))
  have g14 : x_en b pZ = x_en b (x_en b p0) := congrArg (x_en b) (by (first | decide +kernel | omega))
  have g15 : x_vl b pZ = x_vl b (x_en b p0) := congrArg (x_vl b) (by (first | decide +kernel | omega))
  refine V_aload_n 0 d_Mod_readFresh_7 rfl rfl ?_
  refine N_getK fa_Mod_102 sk_116 rfl d_Mod_readFresh_8 o9K ?_
  refine V_if_ne 39 o9E d_Mod_readFresh_11 (by decide) (fun c16 => ?_) (fun c16 => ?_)
  ·
    replace p6 := And.intro p6.1 (p6.2.resolve_right (fun q => by (first | decide +kernel | omega)))
    refine V_aload_n 0 d_Mod_readFresh_39 rfl rfl ?_
    refine N_getK fa_Mod_102 sk_116 rfl d_Mod_readFresh_40 o9K ?_
    refine V_if_ne 86 o9E d_Mod_readFresh_43 (by decide) (fun c17 => ?_) (fun c17 => ?_)
    ·
      refine V_aload_n 0 d_Mod_readFresh_86 rfl rfl ?_
      refine N_callVV [] [] cv_Mod_152 sk_116 rfl d_Mod_readFresh_87 rfl (Nat.le_of_ble_eq_true rfl) (by decide) (by decide) (c_Mod_nextX h5 b hI7 s sZ sE (kn_call fh5 sK rfl) p pZ pE (kn_call fh5 pK rfl) g gZ gE (kn_call fh5 gK rfl) k kZ kE (kn_call fh5 kK rfl) v vZ vE (kn_call fh5 vK rfl) o9 o9Z o9E o9K o10 o10Z o10E o10K (TP_fr f8 (fun _ => rfl) hy0) (by (first | decide +kernel | omega))) (fun h19 p20 => ?_)
      obtain ⟨hI21, fh19, o23, o23Z, o23E, o23K, o24, o24Z, o24E, o24K, o25, o25Z, o25E, o25K, o26, o26Z, o26E, o26K, o27, o27Z, o27E, o27K, o28, o28Z, o28E, o28K, p20⟩ := p20
      have f22 : fr S_Mod_readFreshX_6 h h19 := fr_call f8 fh19 rfl
      have R29 : RM h19 T D := RM_fr fh19 rfl R11
      have g30 : 0 ≤ o23Z ∧ o23Z ≤ 160 := inv_at hI21 o23E o23K.symm rfl
      have g31 : 0 ≤ o24Z ∧ o24Z ≤ 160 := inv_at hI21 o24E o24K.symm rfl
      replace p20 := p20.resolve_right (fun q => by (first | decide +kernel | omega))
      refine V_iload_n 3 d_Mod_readFresh_90 rfl rfl ?_
      exact V_iret rfl d_Mod_readFresh_91 ⟨z4, rfl, ⟨hI21, f22, o23, o23Z, o23E, o23K, o24, o24Z, o24E, o24K, o25, o25Z, o25E, o25K, o26, o26Z, o26E, o26K, o27, o27Z, o27E, o27K, o28, o28Z, o28E, o28K, ⟨(Or.inl (⟨by (first | decide +kernel | omega), by (first | decide +kernel | omega), by (first | decide +kernel | omega)⟩)), by (first | decide +kernel | omega), by (first | decide +kernel | omega), by (first | decide +kernel | omega), by rw [z4E]; omega, by rw [z4E]; omega⟩⟩⟩
    ·
      exact absurd c17 (by (first | decide +kernel | omega))
  ·
    replace p6 := And.intro p6.1 (p6.2.resolve_left (fun q => by (first | decide +kernel | omega)))
    refine V_aload_n 0 d_Mod_readFresh_14 rfl rfl ?_
    refine V_aload_n 0 d_Mod_readFresh_15 rfl rfl ?_
    refine V_getR fa_Mod_20 sk_116 rfl d_Mod_readFresh_16 ?_
    refine V_iload_n 1 d_Mod_readFresh_19 rfl rfl ?_
    refine V_iconst 4 d_Mod_readFresh_20 (by decide) ?_
    refine V_isubw d_Mod_readFresh_21 (fun z32 z32e => ?_)
    obtain rfl : z32 = 2 := z32e.trans (by decide)
    refine N_ialdK sk_120 tc_2 (by (first | decide +kernel | omega)) d_Mod_readFresh_22 (kn_call fh5 zK rfl) ?_
    refine V_iload_n 3 d_Mod_readFresh_23 rfl rfl ?_
    refine N_ishr d_Mod_readFresh_24 (fun z34 z34Z z34E z34e => ?_)
    refine V_iconst 1 d_Mod_readFresh_25 (by decide) ?_
    refine N_iand d_Mod_readFresh_26 (fun z35 z35Z z35E z35e => ?_)
    have g36 : z35Z = T 3 z4Z := x_bt_of (RM_had R11 (by decide) (by decide) (kn_call fh5 zK rfl)) (by (first | decide +kernel | omega)) (by (first | decide +kernel | omega)) z4E z35E (by assumption) (by assumption)
    have g37 : T 3 z4Z = T 3 (x_vl b p0) := congrArg (T 3) (by (first | decide +kernel | omega))
    have g38 := x_c4_s (T 3 (x_vl b p0))
    refine V_if_ne 34 z35E d_Mod_readFresh_27 (by decide) (fun c39 => ?_) (fun c39 => ?_)
    ·
      replace g38 := g38.resolve_left (fun q => by (first | decide +kernel | omega))
      refine V_iconst 0 d_Mod_readFresh_34 (by decide) ?_
      refine V_iconst 4 d_Mod_readFresh_35 (by decide) ?_
      refine N_callVV [.int 0, .int 4] [] cv_Mod_144 sk_116 rfl d_Mod_readFresh_36 rfl (Nat.le_of_ble_eq_true rfl) (by decide) (by decide) (c_Mod_needsX h5 hI7 0 0 tc_0 4 4 tc_4 g gZ gE (kn_call fh5 gK rfl) o9 o9Z o9E o9K o10 o10Z o10E o10K) (fun h41 p42 => ?_)
      obtain ⟨hI43, fh41, o45, o45Z, o45E, o45K, o46, o46Z, o46E, o46K, p42⟩ := p42
      have f44 : fr S_Mod_readFreshX_6 h h41 := fr_call f8 fh41 rfl
      have R47 : RM h41 T D := RM_fr fh41 rfl R11
      replace p42 := (p42.resolve_left (by (first | decide +kernel | omega))).2.2
      refine V_aload_n 0 d_Mod_readFresh_39 rfl rfl ?_
      refine N_getK fa_Mod_102 sk_116 rfl d_Mod_readFresh_40 o45K ?_
      refine V_if_ne 86 o45E d_Mod_readFresh_43 (by decide) (fun c48 => ?_) (fun c48 => ?_)
      ·
        refine V_aload_n 0 d_Mod_readFresh_86 rfl rfl ?_
        refine N_callVV [] [] cv_Mod_152 sk_116 rfl d_Mod_readFresh_87 rfl (Nat.le_of_ble_eq_true rfl) (by decide) (by decide) (c_Mod_nextX h41 b hI43 s sZ sE (kn_call fh41 (kn_call fh5 sK rfl) rfl) p pZ pE (kn_call fh41 (kn_call fh5 pK rfl) rfl) g gZ gE (kn_call fh41 (kn_call fh5 gK rfl) rfl) k kZ kE (kn_call fh41 (kn_call fh5 kK rfl) rfl) v vZ vE (kn_call fh41 (kn_call fh5 vK rfl) rfl) o45 o45Z o45E o45K o46 o46Z o46E o46K (TP_fr f44 (fun _ => rfl) hy0) (by (first | decide +kernel | omega))) (fun h50 p51 => ?_)
        obtain ⟨hI52, fh50, o54, o54Z, o54E, o54K, o55, o55Z, o55E, o55K, o56, o56Z, o56E, o56K, o57, o57Z, o57E, o57K, o58, o58Z, o58E, o58K, o59, o59Z, o59E, o59K, p51⟩ := p51
        have f53 : fr S_Mod_readFreshX_6 h h50 := fr_call f44 fh50 rfl
        have R60 : RM h50 T D := RM_fr fh50 rfl R47
        have g61 : 0 ≤ o54Z ∧ o54Z ≤ 160 := inv_at hI52 o54E o54K.symm rfl
        have g62 : 0 ≤ o55Z ∧ o55Z ≤ 160 := inv_at hI52 o55E o55K.symm rfl
        replace p51 := p51.resolve_right (fun q => by (first | decide +kernel | omega))
        refine V_iload_n 3 d_Mod_readFresh_90 rfl rfl ?_
        exact V_iret rfl d_Mod_readFresh_91 ⟨z4, rfl, ⟨hI52, f53, o54, o54Z, o54E, o54K, o55, o55Z, o55E, o55K, o56, o56Z, o56E, o56K, o57, o57Z, o57E, o57K, o58, o58Z, o58E, o58K, o59, o59Z, o59E, o59K, ⟨(Or.inr (Or.inl (⟨by (first | decide +kernel | omega), by (first | decide +kernel | omega), by (first | decide +kernel | omega), by (first | decide +kernel | omega)⟩))), by (first | decide +kernel | omega), by (first | decide +kernel | omega), by (first | decide +kernel | omega), by rw [z4E]; omega, by rw [z4E]; omega⟩⟩⟩
      ·
        exact absurd c48 (by (first | decide +kernel | omega))
    ·
      replace g38 := g38.resolve_right (fun q => by (first | decide +kernel | omega))
      refine V_iconst 1 d_Mod_readFresh_30 (by decide) ?_
      refine V_goto 35 d_Mod_readFresh_31 (by decide) ?_
      refine V_iconst 4 d_Mod_readFresh_35 (by decide) ?_
      refine N_callVV [.int 1, .int 4] [] cv_Mod_144 sk_116 rfl d_Mod_readFresh_36 rfl (Nat.le_of_ble_eq_true rfl) (by decide) (by decide) (c_Mod_needsX h5 hI7 1 1 tc_1 4 4 tc_4 g gZ gE (kn_call fh5 gK rfl) o9 o9Z o9E o9K o10 o10Z o10E o10K) (fun h64 p65 => ?_)
      obtain ⟨hI66, fh64, o68, o68Z, o68E, o68K, o69, o69Z, o69E, o69K, p65⟩ := p65
      have f67 : fr S_Mod_readFreshX_6 h h64 := fr_call f8 fh64 rfl
      have R70 : RM h64 T D := RM_fr fh64 rfl R11
      replace p65 := (p65.resolve_right (by (first | decide +kernel | omega))).2
      refine V_aload_n 0 d_Mod_readFresh_39 rfl rfl ?_
      refine N_getK fa_Mod_102 sk_116 rfl d_Mod_readFresh_40 o68K ?_
      refine V_if_ne 86 o68E d_Mod_readFresh_43 (by decide) (fun c71 => ?_) (fun c71 => ?_)
      ·
        exact absurd c71 (by (first | decide +kernel | omega))
      ·
        refine V_aload_n 0 d_Mod_readFresh_46 rfl rfl ?_
        refine V_getR fa_Mod_20 sk_116 rfl d_Mod_readFresh_47 ?_
        refine V_iload_n 1 d_Mod_readFresh_50 rfl rfl ?_
        refine V_iconst 4 d_Mod_readFresh_51 (by decide) ?_
        refine V_isubw d_Mod_readFresh_52 (fun z72 z72e => ?_)
        obtain rfl : z72 = 2 := z72e.trans (by decide)
        refine V_dup2 d_Mod_readFresh_53 rfl rfl ?_
        refine N_ialdK sk_120 tc_2 (by (first | decide +kernel | omega)) d_Mod_readFresh_54 (kn_call fh64 (kn_call fh5 zK rfl) rfl) ?_
        refine V_iconst 1 d_Mod_readFresh_55 (by decide) ?_
        refine V_iload_n 3 d_Mod_readFresh_56 rfl rfl ?_
        refine N_ishl d_Mod_readFresh_57 (fun z74 z74Z z74E z74e => ?_)
        refine N_ior d_Mod_readFresh_58 (fun z75 z75Z z75E z75e => ?_)
        refine N_iast sk_120 tc_2 (by (first | decide +kernel | omega)) d_Mod_readFresh_59 (fun h76 eh76 => ?_)
        have hI77 : Inv h76 := inv_full hI66 eh76 rfl
        have f78 : fr S_Mod_readFreshX_6 h h76 := fr_put f67 eh76 rfl
        refine V_aload_n 0 d_Mod_readFresh_60 rfl rfl ?_
        refine V_iload_n 1 d_Mod_readFresh_61 rfl rfl ?_
        refine V_bipush 8 d_Mod_readFresh_62 (by decide) ?_
        refine V_icmp_ge 79 tc_6 tc_8 d_Mod_readFresh_64 (by decide) (fun c80 => ?_) (fun c80 => ?_)
        ·
          exact absurd c80 (by decide)
        ·
          refine V_iload_n 3 d_Mod_readFresh_67 rfl rfl ?_
          refine V_aload_n 0 d_Mod_readFresh_68 rfl rfl ?_
          refine N_getK fa_Mod_78 sk_116 rfl d_Mod_readFresh_69 (kn_ne eh76 (kn_call fh64 (kn_call fh5 iK rfl) rfl) (by decide)) ?_
          refine V_icmp_le 79 z4E iE d_Mod_readFresh_72 (by decide) (fun c81 => ?_) (fun c81 => ?_)
          ·
            refine V_aload_n 0 d_Mod_readFresh_79 rfl rfl ?_
            refine N_getK fa_Mod_78 sk_116 rfl d_Mod_readFresh_80 (kn_ne eh76 (kn_call fh64 (kn_call fh5 iK rfl) rfl) (by decide)) ?_
            refine N_putI fp_Mod_78 sk_116 rfl d_Mod_readFresh_83 (fun h82 eh82 => ?_)
            have hI83 : Inv h82 := inv_full hI77 eh82 rfl
            have f84 : fr S_Mod_readFreshX_6 h h82 := fr_put f78 eh82 rfl
            have R85 : RM h82 (x_upT T 3 (x_vl b p0)) D := RM_fresh (l := 3) R70 ⟨by decide, by decide⟩ eh76 (kn_call fh64 (kn_call fh5 zK rfl) rfl) (by (first | decide +kernel | omega)) (z4E.trans (by (first | decide +kernel | omega))) (by assumption) (by assumption) rfl eh82 iE ((congrArg Int32.toInt (kn_call fh64 (kn_call fh5 iK rfl) rfl)).trans iE) (Or.inl ⟨by decide, by (first | decide +kernel | omega)⟩)
            refine V_aload_n 0 d_Mod_readFresh_86 rfl rfl ?_
            refine N_callVV [] [] cv_Mod_152 sk_116 rfl d_Mod_readFresh_87 rfl (Nat.le_of_ble_eq_true rfl) (by decide) (by decide) (c_Mod_nextX h82 b hI83 s sZ sE (kn_nei eh82 (kn_ne eh76 (kn_call fh64 (kn_call fh5 sK rfl) rfl) (by decide)) (by decide)) p pZ pE (kn_nei eh82 (kn_ne eh76 (kn_call fh64 (kn_call fh5 pK rfl) rfl) (by decide)) (by decide)) g gZ gE (kn_nei eh82 (kn_ne eh76 (kn_call fh64 (kn_call fh5 gK rfl) rfl) (by decide)) (by decide)) k kZ kE (kn_nei eh82 (kn_ne eh76 (kn_call fh64 (kn_call fh5 kK rfl) rfl) (by decide)) (by decide)) v vZ vE (kn_nei eh82 (kn_ne eh76 (kn_call fh64 (kn_call fh5 vK rfl) rfl) (by decide)) (by decide)) o68 o68Z o68E (kn_nei eh82 (kn_ne eh76 o68K (by decide)) (by decide)) o69 o69Z o69E (kn_nei eh82 (kn_ne eh76 o69K (by decide)) (by decide)) (TP_fr f84 (fun _ => rfl) hy0) (by (first | decide +kernel | omega))) (fun h87 p88 => ?_)
            obtain ⟨hI89, fh87, o91, o91Z, o91E, o91K, o92, o92Z, o92E, o92K, o93, o93Z, o93E, o93K, o94, o94Z, o94E, o94K, o95, o95Z, o95E, o95K, o96, o96Z, o96E, o96K, p88⟩ := p88
            have f90 : fr S_Mod_readFreshX_6 h h87 := fr_call f84 fh87 rfl
            have R97 : RM h87 (x_upT T 3 (x_vl b p0)) D := RM_fr fh87 rfl R85
            have g98 : 0 ≤ o91Z ∧ o91Z ≤ 160 := inv_at hI89 o91E o91K.symm rfl
            have g99 : 0 ≤ o92Z ∧ o92Z ≤ 160 := inv_at hI89 o92E o92K.symm rfl
            replace p88 := p88.resolve_left (fun q => by (first | decide +kernel | omega))
            refine V_iload_n 3 d_Mod_readFresh_90 rfl rfl ?_
            exact V_iret rfl d_Mod_readFresh_91 ⟨z4, rfl, ⟨hI89, f90, o91, o91Z, o91E, o91K, o92, o92Z, o92E, o92K, o93, o93Z, o93E, o93K, o94, o94Z, o94E, o94K, o95, o95Z, o95E, o95K, o96, o96Z, o96E, o96K, ⟨(Or.inr (Or.inr (⟨by (first | decide +kernel | omega), by (first | decide +kernel | omega), by rw [z4E]; omega, (if q9 : o95Z = 0 then Or.inr ⟨q9, by (first | decide +kernel | omega), by (first | decide +kernel | omega), by (first | decide +kernel | omega), by (first | decide +kernel | omega), by (first | decide +kernel | omega), by (first | decide +kernel | omega), by (first | decide +kernel | omega), by (first | decide +kernel | omega), by (first | decide +kernel | omega), by (first | decide +kernel | omega), by (first | decide +kernel | omega)⟩ else Or.inl ⟨by (first | decide +kernel | omega), by (first | decide +kernel | omega), by (first | decide +kernel | omega)⟩), R97⟩))), by (first | decide +kernel | omega), by (first | decide +kernel | omega), by (first | decide +kernel | omega), by rw [z4E]; omega, by rw [z4E]; omega⟩⟩⟩
          ·
            refine V_iload_n 3 d_Mod_readFresh_75 rfl rfl ?_
            refine V_goto 83 d_Mod_readFresh_76 (by decide) ?_
            refine N_putI fp_Mod_78 sk_116 rfl d_Mod_readFresh_83 (fun h100 eh100 => ?_)
            have hI101 : Inv h100 := inv_full hI77 eh100 rfl
            have f102 : fr S_Mod_readFreshX_6 h h100 := fr_put f78 eh100 rfl
            have R103 : RM h100 (x_upT T 3 (x_vl b p0)) D := RM_fresh (l := 3) R70 ⟨by decide, by decide⟩ eh76 (kn_call fh64 (kn_call fh5 zK rfl) rfl) (by (first | decide +kernel | omega)) (z4E.trans (by (first | decide +kernel | omega))) (by assumption) (by assumption) rfl eh100 z4E ((congrArg Int32.toInt (kn_call fh64 (kn_call fh5 iK rfl) rfl)).trans iE) (Or.inl ⟨by decide, by (first | decide +kernel | omega)⟩)
            refine V_aload_n 0 d_Mod_readFresh_86 rfl rfl ?_
            refine N_callVV [] [] cv_Mod_152 sk_116 rfl d_Mod_readFresh_87 rfl (Nat.le_of_ble_eq_true rfl) (by decide) (by decide) (c_Mod_nextX h100 b hI101 s sZ sE (kn_nei eh100 (kn_ne eh76 (kn_call fh64 (kn_call fh5 sK rfl) rfl) (by decide)) (by decide)) p pZ pE (kn_nei eh100 (kn_ne eh76 (kn_call fh64 (kn_call fh5 pK rfl) rfl) (by decide)) (by decide)) g gZ gE (kn_nei eh100 (kn_ne eh76 (kn_call fh64 (kn_call fh5 gK rfl) rfl) (by decide)) (by decide)) k kZ kE (kn_nei eh100 (kn_ne eh76 (kn_call fh64 (kn_call fh5 kK rfl) rfl) (by decide)) (by decide)) v vZ vE (kn_nei eh100 (kn_ne eh76 (kn_call fh64 (kn_call fh5 vK rfl) rfl) (by decide)) (by decide)) o68 o68Z o68E (kn_nei eh100 (kn_ne eh76 o68K (by decide)) (by decide)) o69 o69Z o69E (kn_nei eh100 (kn_ne eh76 o69K (by decide)) (by decide)) (TP_fr f102 (fun _ => rfl) hy0) (by (first | decide +kernel | omega))) (fun h105 p106 => ?_)
            obtain ⟨hI107, fh105, o109, o109Z, o109E, o109K, o110, o110Z, o110E, o110K, o111, o111Z, o111E, o111K, o112, o112Z, o112E, o112K, o113, o113Z, o113E, o113K, o114, o114Z, o114E, o114K, p106⟩ := p106
            have f108 : fr S_Mod_readFreshX_6 h h105 := fr_call f102 fh105 rfl
            have R115 : RM h105 (x_upT T 3 (x_vl b p0)) D := RM_fr fh105 rfl R103
            have g116 : 0 ≤ o109Z ∧ o109Z ≤ 160 := inv_at hI107 o109E o109K.symm rfl
            have g117 : 0 ≤ o110Z ∧ o110Z ≤ 160 := inv_at hI107 o110E o110K.symm rfl
            replace p106 := p106.resolve_left (fun q => by (first | decide +kernel | omega))
            refine V_iload_n 3 d_Mod_readFresh_90 rfl rfl ?_
            exact V_iret rfl d_Mod_readFresh_91 ⟨z4, rfl, ⟨hI107, f108, o109, o109Z, o109E, o109K, o110, o110Z, o110E, o110K, o111, o111Z, o111E, o111K, o112, o112Z, o112E, o112K, o113, o113Z, o113E, o113K, o114, o114Z, o114E, o114K, ⟨(Or.inr (Or.inr (⟨by (first | decide +kernel | omega), by (first | decide +kernel | omega), by rw [z4E]; omega, (if q9 : o113Z = 0 then Or.inr ⟨q9, by (first | decide +kernel | omega), by (first | decide +kernel | omega), by (first | decide +kernel | omega), by (first | decide +kernel | omega), by (first | decide +kernel | omega), by (first | decide +kernel | omega), by (first | decide +kernel | omega), by (first | decide +kernel | omega), by (first | decide +kernel | omega), by (first | decide +kernel | omega), by (first | decide +kernel | omega)⟩ else Or.inl ⟨by (first | decide +kernel | omega), by (first | decide +kernel | omega), by (first | decide +kernel | omega)⟩), R115⟩))), by (first | decide +kernel | omega), by (first | decide +kernel | omega), by (first | decide +kernel | omega), by rw [z4E]; omega, by rw [z4E]; omega⟩⟩⟩
def S_Mod_readFreshX_7 : List (Nat × Option Nat) := [(116, some 16), (116, some 17), (116, some 18), (116, some 19), (116, some 20), (116, some 21), (120, some 3), (116, some 13)]
abbrev q_Mod_readFreshX_7 (h : Hp) (b : Int → Int) (T : Nat → Int → Int) (D : Nat → Int) (p0 : Int) (s : Int32) (sZ : Int) (p : Int32) (pZ : Int) (g : Int32) (gZ : Int) (k : Int32) (kZ : Int) (v : Int32) (vZ : Int) (w : Int32) (wZ : Int) (a : Int32) (aZ : Int) (z : Int32) (zZ : Int) (i : Int32) (iZ : Int) : Option Value → Hp → Prop := pInt (fun r h' => Inv h' ∧ fr S_Mod_readFreshX_7 h h' ∧ ∃ (q : Int32) (qZ : Int), q.toInt = qZ ∧ h'.1 116 16 = q ∧ ∃ (f : Int32) (fZ : Int), f.toInt = fZ ∧ h'.1 116 17 = f ∧ ∃ (m : Int32) (mZ : Int), m.toInt = mZ ∧ h'.1 116 18 = m ∧ ∃ (x : Int32) (xZ : Int), x.toInt = xZ ∧ h'.1 116 19 = x ∧ ∃ (u : Int32) (uZ : Int), u.toInt = uZ ∧ h'.1 116 20 = u ∧ ∃ (y : Int32) (yZ : Int), y.toInt = yZ ∧ h'.1 116 21 = y ∧ ((x_cN b p0 0 15 ≠ 0 ∧ uZ = x_cN b p0 0 15 ∧ yZ = x_fr b p0 ∨ x_cN b p0 0 15 = 0 ∧ x_c4 (T 4 (x_vl b p0)) ≠ 0 ∧ uZ = 4 ∧ yZ = x_fr b p0 ∨ x_cN b p0 0 15 = 0 ∧ x_c4 (T 4 (x_vl b p0)) = 0 ∧ r.toInt = x_vl b p0 ∧ (uZ = 1 ∧ x_kd b (x_en b p0) = 4 ∧ yZ = x_fr b (x_en b p0) ∨ uZ = 0 ∧ fZ = x_fr b (x_en b p0) ∧ mZ = x_kd b (x_en b p0) ∧ mZ ≠ 4 ∧ 0 ≤ mZ ∧ mZ ≤ 3 ∧ qZ = x_en b (x_en b p0) ∧ (mZ ≠ 2 ∨ xZ = x_vl b (x_en b p0) ∧ 0 ≤ xZ ∧ xZ ≤ 99) ∧ (x_en b p0) ≤ fZ ∧ fZ ≤ qZ ∧ qZ ≤ sZ ∧ (mZ = 0 ∨ fZ < qZ)) ∧ RM h' (x_upT T 4 (x_vl b p0)) D) ∧ 0 ≤ qZ ∧ qZ ≤ sZ ∧ 0 ≤ uZ ∧ 0 ≤ r.toInt ∧ r.toInt ≤ 15))
set_option maxRecDepth 100000 in
theorem c_Mod_readFreshX_7 (h : Hp) (b : Int → Int) (T : Nat → Int → Int) (D : Nat → Int) (p0 : Int) (hI : Inv h) (s : Int32) (sZ : Int) (sE : s.toInt = sZ) (sK : h.1 116 15 = s) (p : Int32) (pZ : Int) (pE : p.toInt = pZ) (pK : h.1 116 16 = p) (g : Int32) (gZ : Int) (gE : g.toInt = gZ) (gK : h.1 116 17 = g) (k : Int32) (kZ : Int) (kE : k.toInt = kZ) (kK : h.1 116 18 = k) (v : Int32) (vZ : Int) (vE : v.toInt = vZ) (vK : h.1 116 19 = v) (w : Int32) (wZ : Int) (wE : w.toInt = wZ) (wK : h.1 116 20 = w) (a : Int32) (aZ : Int) (aE : a.toInt = aZ) (aK : h.1 116 21 = a) (z : Int32) (zZ : Int) (zE : z.toInt = zZ) (zK : h.1 120 3 = z) (i : Int32) (iZ : Int) (iE : i.toInt = iZ) (iK : h.1 116 13 = i) (hy0 : TP h 121 sZ b) (hy1 : 0 ≤ pZ ∧ pZ ≤ sZ ∧ wZ = 0) (hy2 : gZ = x_fr b p0 ∧ kZ = x_kd b p0 ∧ kZ ≠ 4 ∧ 0 ≤ kZ ∧ kZ ≤ 3 ∧ pZ = x_en b p0 ∧ (kZ ≠ 2 ∨ vZ = x_vl b p0 ∧ 0 ≤ vZ ∧ vZ ≤ 99) ∧ p0 ≤ gZ ∧ gZ ≤ pZ ∧ pZ ≤ sZ ∧ (kZ = 0 ∨ gZ < pZ)) (hy3 : RM h T D) : Ct y_Mod_readFresh b_Mod_readFresh 4 (some .int) 2 47 [.ref 116, .int 7, .int 15] h (q_Mod_readFreshX_7 h b T D p0 s sZ p pZ g gZ k kZ v vZ w wZ a aZ z zZ i iZ) := by
  refine ct_ow R_Mod [some (.ref 116), some (.int 7), some (.int 15), none] rfl (by decide) rfl (Nat.le_of_ble_eq_true rfl) ?_
  have f0 : fr S_Mod_readFreshX_7 h h := fr_rf
  have g1 : 0 ≤ sZ ∧ sZ ≤ 160 := inv_at hI sE sK.symm rfl
  have g2 : 0 ≤ pZ ∧ pZ ≤ 160 := inv_at hI pE pK.symm rfl
  have g3 : 0 ≤ gZ ∧ gZ ≤ 160 := inv_at hI gE gK.symm rfl
  refine V_aload_n 0 d_Mod_readFresh_0 rfl rfl ?_
  refine V_iconst 0 d_Mod_readFresh_1 (by decide) ?_
  refine V_iload_n 2 d_Mod_readFresh_2 rfl rfl ?_
  refine N_callVI [.int 0, .int 15] [] cv_Mod_148 sk_116 rfl d_Mod_readFresh_3 rfl (Nat.le_of_ble_eq_true rfl) (by decide) (by decide) (c_Mod_lookedX h hI 0 0 tc_0 15 15 tc_15 g gZ gE gK k kZ kE kK v vZ vE vK w wZ wE wK a aZ aE aK) (fun z4 h5 z4Z z4E p6 => ?_)
  obtain ⟨hI7, fh5, o9, o9Z, o9E, o9K, o10, o10Z, o10E, o10K, p6⟩ := p6
  have f8 : fr S_Mod_readFreshX_7 h h5 := fr_call f0 fh5 rfl
  have R11 : RM h5 T D := RM_fr fh5 rfl hy3
  refine V_istore_n 3 [some (.ref 116), some (.int 7), some (.int 15), some (.int z4)] d_Mod_readFresh_6 rfl (by decide) rfl rfl ?_
  replace p6 := lk_all hy2 hy1.2.2 p6
  replace hy2 := lx_s hy2
  have g12 : x_fr b pZ = x_fr b (x_en b p0) := congrArg (x_fr b) (by (first | decide +kernel | omega))
  have g13 : x_kd b pZ = x_kd b (x_en b p0) := congrArg (x_kd b) (by (first | decide +kernel | omega))
  have g14 : x_en b pZ = x_en b (x_en b p0) := congrArg (x_en b) (by (first | decide +kernel | omega))
  have g15 : x_vl b pZ = x_vl b (x_en b p0) := congrArg (x_vl b) (by (first | decide +kernel | omega))
  refine V_aload_n 0 d_Mod_readFresh_7 rfl rfl ?_
  refine N_getK fa_Mod_102 sk_116 rfl d_Mod_readFresh_8 o9K ?_
  refine V_if_ne 39 o9E d_Mod_readFresh_11 (by decide) (fun c16 => ?_) (fun c16 => ?_)
  ·
    replace p6 := And.intro p6.1 (p6.2.resolve_right (fun q => by (first | decide +kernel | omega)))
    refine V_aload_n 0 d_Mod_readFresh_39 rfl rfl ?_
    refine N_getK fa_Mod_102 sk_116 rfl d_Mod_readFresh_40 o9K ?_
    refine V_if_ne 86 o9E d_Mod_readFresh_43 (by decide) (fun c17 => ?_) (fun c17 => ?_)
    ·
      refine V_aload_n 0 d_Mod_readFresh_86 rfl rfl ?_
      refine N_callVV [] [] cv_Mod_152 sk_116 rfl d_Mod_readFresh_87 rfl (Nat.le_of_ble_eq_true rfl) (by decide) (by decide) (c_Mod_nextX h5 b hI7 s sZ sE (kn_call fh5 sK rfl) p pZ pE (kn_call fh5 pK rfl) g gZ gE (kn_call fh5 gK rfl) k kZ kE (kn_call fh5 kK rfl) v vZ vE (kn_call fh5 vK rfl) o9 o9Z o9E o9K o10 o10Z o10E o10K (TP_fr f8 (fun _ => rfl) hy0) (by (first | decide +kernel | omega))) (fun h19 p20 => ?_)
      obtain ⟨hI21, fh19, o23, o23Z, o23E, o23K, o24, o24Z, o24E, o24K, o25, o25Z, o25E, o25K, o26, o26Z, o26E, o26K, o27, o27Z, o27E, o27K, o28, o28Z, o28E, o28K, p20⟩ := p20
      have f22 : fr S_Mod_readFreshX_7 h h19 := fr_call f8 fh19 rfl
      have R29 : RM h19 T D := RM_fr fh19 rfl R11
      have g30 : 0 ≤ o23Z ∧ o23Z ≤ 160 := inv_at hI21 o23E o23K.symm rfl
      have g31 : 0 ≤ o24Z ∧ o24Z ≤ 160 := inv_at hI21 o24E o24K.symm rfl
      replace p20 := p20.resolve_right (fun q => by (first | decide +kernel | omega))
      refine V_iload_n 3 d_Mod_readFresh_90 rfl rfl ?_
      exact V_iret rfl d_Mod_readFresh_91 ⟨z4, rfl, ⟨hI21, f22, o23, o23Z, o23E, o23K, o24, o24Z, o24E, o24K, o25, o25Z, o25E, o25K, o26, o26Z, o26E, o26K, o27, o27Z, o27E, o27K, o28, o28Z, o28E, o28K, ⟨(Or.inl (⟨by (first | decide +kernel | omega), by (first | decide +kernel | omega), by (first | decide +kernel | omega)⟩)), by (first | decide +kernel | omega), by (first | decide +kernel | omega), by (first | decide +kernel | omega), by rw [z4E]; omega, by rw [z4E]; omega⟩⟩⟩
    ·
      exact absurd c17 (by (first | decide +kernel | omega))
  ·
    replace p6 := And.intro p6.1 (p6.2.resolve_left (fun q => by (first | decide +kernel | omega)))
    refine V_aload_n 0 d_Mod_readFresh_14 rfl rfl ?_
    refine V_aload_n 0 d_Mod_readFresh_15 rfl rfl ?_
    refine V_getR fa_Mod_20 sk_116 rfl d_Mod_readFresh_16 ?_
    refine V_iload_n 1 d_Mod_readFresh_19 rfl rfl ?_
    refine V_iconst 4 d_Mod_readFresh_20 (by decide) ?_
    refine V_isubw d_Mod_readFresh_21 (fun z32 z32e => ?_)
    obtain rfl : z32 = 3 := z32e.trans (by decide)
    refine N_ialdK sk_120 tc_3 (by (first | decide +kernel | omega)) d_Mod_readFresh_22 (kn_call fh5 zK rfl) ?_
    refine V_iload_n 3 d_Mod_readFresh_23 rfl rfl ?_
    refine N_ishr d_Mod_readFresh_24 (fun z34 z34Z z34E z34e => ?_)
    refine V_iconst 1 d_Mod_readFresh_25 (by decide) ?_
    refine N_iand d_Mod_readFresh_26 (fun z35 z35Z z35E z35e => ?_)
    have g36 : z35Z = T 4 z4Z := x_bt_of (RM_had R11 (by decide) (by decide) (kn_call fh5 zK rfl)) (by (first | decide +kernel | omega)) (by (first | decide +kernel | omega)) z4E z35E (by assumption) (by assumption)
    have g37 : T 4 z4Z = T 4 (x_vl b p0) := congrArg (T 4) (by (first | decide +kernel | omega))
    have g38 := x_c4_s (T 4 (x_vl b p0))
    refine V_if_ne 34 z35E d_Mod_readFresh_27 (by decide) (fun c39 => ?_) (fun c39 => ?_)
    ·
      replace g38 := g38.resolve_left (fun q => by (first | decide +kernel | omega))
      refine V_iconst 0 d_Mod_readFresh_34 (by decide) ?_
      refine V_iconst 4 d_Mod_readFresh_35 (by decide) ?_
      refine N_callVV [.int 0, .int 4] [] cv_Mod_144 sk_116 rfl d_Mod_readFresh_36 rfl (Nat.le_of_ble_eq_true rfl) (by decide) (by decide) (c_Mod_needsX h5 hI7 0 0 tc_0 4 4 tc_4 g gZ gE (kn_call fh5 gK rfl) o9 o9Z o9E o9K o10 o10Z o10E o10K) (fun h41 p42 => ?_)
      obtain ⟨hI43, fh41, o45, o45Z, o45E, o45K, o46, o46Z, o46E, o46K, p42⟩ := p42
      have f44 : fr S_Mod_readFreshX_7 h h41 := fr_call f8 fh41 rfl
      have R47 : RM h41 T D := RM_fr fh41 rfl R11
      replace p42 := (p42.resolve_left (by (first | decide +kernel | omega))).2.2
      refine V_aload_n 0 d_Mod_readFresh_39 rfl rfl ?_
      refine N_getK fa_Mod_102 sk_116 rfl d_Mod_readFresh_40 o45K ?_
      refine V_if_ne 86 o45E d_Mod_readFresh_43 (by decide) (fun c48 => ?_) (fun c48 => ?_)
      ·
        refine V_aload_n 0 d_Mod_readFresh_86 rfl rfl ?_
        refine N_callVV [] [] cv_Mod_152 sk_116 rfl d_Mod_readFresh_87 rfl (Nat.le_of_ble_eq_true rfl) (by decide) (by decide) (c_Mod_nextX h41 b hI43 s sZ sE (kn_call fh41 (kn_call fh5 sK rfl) rfl) p pZ pE (kn_call fh41 (kn_call fh5 pK rfl) rfl) g gZ gE (kn_call fh41 (kn_call fh5 gK rfl) rfl) k kZ kE (kn_call fh41 (kn_call fh5 kK rfl) rfl) v vZ vE (kn_call fh41 (kn_call fh5 vK rfl) rfl) o45 o45Z o45E o45K o46 o46Z o46E o46K (TP_fr f44 (fun _ => rfl) hy0) (by (first | decide +kernel | omega))) (fun h50 p51 => ?_)
        obtain ⟨hI52, fh50, o54, o54Z, o54E, o54K, o55, o55Z, o55E, o55K, o56, o56Z, o56E, o56K, o57, o57Z, o57E, o57K, o58, o58Z, o58E, o58K, o59, o59Z, o59E, o59K, p51⟩ := p51
        have f53 : fr S_Mod_readFreshX_7 h h50 := fr_call f44 fh50 rfl
        have R60 : RM h50 T D := RM_fr fh50 rfl R47
        have g61 : 0 ≤ o54Z ∧ o54Z ≤ 160 := inv_at hI52 o54E o54K.symm rfl
        have g62 : 0 ≤ o55Z ∧ o55Z ≤ 160 := inv_at hI52 o55E o55K.symm rfl
        replace p51 := p51.resolve_right (fun q => by (first | decide +kernel | omega))
        refine V_iload_n 3 d_Mod_readFresh_90 rfl rfl ?_
        exact V_iret rfl d_Mod_readFresh_91 ⟨z4, rfl, ⟨hI52, f53, o54, o54Z, o54E, o54K, o55, o55Z, o55E, o55K, o56, o56Z, o56E, o56K, o57, o57Z, o57E, o57K, o58, o58Z, o58E, o58K, o59, o59Z, o59E, o59K, ⟨(Or.inr (Or.inl (⟨by (first | decide +kernel | omega), by (first | decide +kernel | omega), by (first | decide +kernel | omega), by (first | decide +kernel | omega)⟩))), by (first | decide +kernel | omega), by (first | decide +kernel | omega), by (first | decide +kernel | omega), by rw [z4E]; omega, by rw [z4E]; omega⟩⟩⟩
      ·
        exact absurd c48 (by (first | decide +kernel | omega))
    ·
      replace g38 := g38.resolve_right (fun q => by (first | decide +kernel | omega))
      refine V_iconst 1 d_Mod_readFresh_30 (by decide) ?_
      refine V_goto 35 d_Mod_readFresh_31 (by decide) ?_
      refine V_iconst 4 d_Mod_readFresh_35 (by decide) ?_
      refine N_callVV [.int 1, .int 4] [] cv_Mod_144 sk_116 rfl d_Mod_readFresh_36 rfl (Nat.le_of_ble_eq_true rfl) (by decide) (by decide) (c_Mod_needsX h5 hI7 1 1 tc_1 4 4 tc_4 g gZ gE (kn_call fh5 gK rfl) o9 o9Z o9E o9K o10 o10Z o10E o10K) (fun h64 p65 => ?_)
      obtain ⟨hI66, fh64, o68, o68Z, o68E, o68K, o69, o69Z, o69E, o69K, p65⟩ := p65
      have f67 : fr S_Mod_readFreshX_7 h h64 := fr_call f8 fh64 rfl
      have R70 : RM h64 T D := RM_fr fh64 rfl R11
      replace p65 := (p65.resolve_right (by (first | decide +kernel | omega))).2
      refine V_aload_n 0 d_Mod_readFresh_39 rfl rfl ?_
      refine N_getK fa_Mod_102 sk_116 rfl d_Mod_readFresh_40 o68K ?_
      refine V_if_ne 86 o68E d_Mod_readFresh_43 (by decide) (fun c71 => ?_) (fun c71 => ?_)
      ·
        exact absurd c71 (by (first | decide +kernel | omega))
      ·
        refine V_aload_n 0 d_Mod_readFresh_46 rfl rfl ?_
        refine V_getR fa_Mod_20 sk_116 rfl d_Mod_readFresh_47 ?_
        refine V_iload_n 1 d_Mod_readFresh_50 rfl rfl ?_
        refine V_iconst 4 d_Mod_readFresh_51 (by decide) ?_
        refine V_isubw d_Mod_readFresh_52 (fun z72 z72e => ?_)
        obtain rfl : z72 = 3 := z72e.trans (by decide)
        refine V_dup2 d_Mod_readFresh_53 rfl rfl ?_
        refine N_ialdK sk_120 tc_3 (by (first | decide +kernel | omega)) d_Mod_readFresh_54 (kn_call fh64 (kn_call fh5 zK rfl) rfl) ?_
        refine V_iconst 1 d_Mod_readFresh_55 (by decide) ?_
        refine V_iload_n 3 d_Mod_readFresh_56 rfl rfl ?_
        refine N_ishl d_Mod_readFresh_57 (fun z74 z74Z z74E z74e => ?_)
        refine N_ior d_Mod_readFresh_58 (fun z75 z75Z z75E z75e => ?_)
        refine N_iast sk_120 tc_3 (by (first | decide +kernel | omega)) d_Mod_readFresh_59 (fun h76 eh76 => ?_)
        have hI77 : Inv h76 := inv_full hI66 eh76 rfl
        have f78 : fr S_Mod_readFreshX_7 h h76 := fr_put f67 eh76 rfl
        refine V_aload_n 0 d_Mod_readFresh_60 rfl rfl ?_
        refine V_iload_n 1 d_Mod_readFresh_61 rfl rfl ?_
        refine V_bipush 8 d_Mod_readFresh_62 (by decide) ?_
        refine V_icmp_ge 79 tc_7 tc_8 d_Mod_readFresh_64 (by decide) (fun c80 => ?_) (fun c80 => ?_)
        ·
          exact absurd c80 (by decide)
        ·
          refine V_iload_n 3 d_Mod_readFresh_67 rfl rfl ?_
          refine V_aload_n 0 d_Mod_readFresh_68 rfl rfl ?_
          refine N_getK fa_Mod_78 sk_116 rfl d_Mod_readFresh_69 (kn_ne eh76 (kn_call fh64 (kn_call fh5 iK rfl) rfl) (by decide)) ?_
          refine V_icmp_le 79 z4E iE d_Mod_readFresh_72 (by decide) (fun c81 => ?_) (fun c81 => ?_)
          ·
            refine V_aload_n 0 d_Mod_readFresh_79 rfl rfl ?_
            refine N_getK fa_Mod_78 sk_116 rfl d_Mod_readFresh_80 (kn_ne eh76 (kn_call fh64 (kn_call fh5 iK rfl) rfl) (by decide)) ?_
            refine N_putI fp_Mod_78 sk_116 rfl d_Mod_readFresh_83 (fun h82 eh82 => ?_)
            have hI83 : Inv h82 := inv_full hI77 eh82 rfl
            have f84 : fr S_Mod_readFreshX_7 h h82 := fr_put f78 eh82 rfl
            have R85 : RM h82 (x_upT T 4 (x_vl b p0)) D := RM_fresh (l := 4) R70 ⟨by decide, by decide⟩ eh76 (kn_call fh64 (kn_call fh5 zK rfl) rfl) (by (first | decide +kernel | omega)) (z4E.trans (by (first | decide +kernel | omega))) (by assumption) (by assumption) rfl eh82 iE ((congrArg Int32.toInt (kn_call fh64 (kn_call fh5 iK rfl) rfl)).trans iE) (Or.inl ⟨by decide, by (first | decide +kernel | omega)⟩)
            refine V_aload_n 0 d_Mod_readFresh_86 rfl rfl ?_
            refine N_callVV [] [] cv_Mod_152 sk_116 rfl d_Mod_readFresh_87 rfl (Nat.le_of_ble_eq_true rfl) (by decide) (by decide) (c_Mod_nextX h82 b hI83 s sZ sE (kn_nei eh82 (kn_ne eh76 (kn_call fh64 (kn_call fh5 sK rfl) rfl) (by decide)) (by decide)) p pZ pE (kn_nei eh82 (kn_ne eh76 (kn_call fh64 (kn_call fh5 pK rfl) rfl) (by decide)) (by decide)) g gZ gE (kn_nei eh82 (kn_ne eh76 (kn_call fh64 (kn_call fh5 gK rfl) rfl) (by decide)) (by decide)) k kZ kE (kn_nei eh82 (kn_ne eh76 (kn_call fh64 (kn_call fh5 kK rfl) rfl) (by decide)) (by decide)) v vZ vE (kn_nei eh82 (kn_ne eh76 (kn_call fh64 (kn_call fh5 vK rfl) rfl) (by decide)) (by decide)) o68 o68Z o68E (kn_nei eh82 (kn_ne eh76 o68K (by decide)) (by decide)) o69 o69Z o69E (kn_nei eh82 (kn_ne eh76 o69K (by decide)) (by decide)) (TP_fr f84 (fun _ => rfl) hy0) (by (first | decide +kernel | omega))) (fun h87 p88 => ?_)
            obtain ⟨hI89, fh87, o91, o91Z, o91E, o91K, o92, o92Z, o92E, o92K, o93, o93Z, o93E, o93K, o94, o94Z, o94E, o94K, o95, o95Z, o95E, o95K, o96, o96Z, o96E, o96K, p88⟩ := p88
            have f90 : fr S_Mod_readFreshX_7 h h87 := fr_call f84 fh87 rfl
            have R97 : RM h87 (x_upT T 4 (x_vl b p0)) D := RM_fr fh87 rfl R85
            have g98 : 0 ≤ o91Z ∧ o91Z ≤ 160 := inv_at hI89 o91E o91K.symm rfl
            have g99 : 0 ≤ o92Z ∧ o92Z ≤ 160 := inv_at hI89 o92E o92K.symm rfl
            replace p88 := p88.resolve_left (fun q => by (first | decide +kernel | omega))
            refine V_iload_n 3 d_Mod_readFresh_90 rfl rfl ?_
            exact V_iret rfl d_Mod_readFresh_91 ⟨z4, rfl, ⟨hI89, f90, o91, o91Z, o91E, o91K, o92, o92Z, o92E, o92K, o93, o93Z, o93E, o93K, o94, o94Z, o94E, o94K, o95, o95Z, o95E, o95K, o96, o96Z, o96E, o96K, ⟨(Or.inr (Or.inr (⟨by (first | decide +kernel | omega), by (first | decide +kernel | omega), by rw [z4E]; omega, (if q9 : o95Z = 0 then Or.inr ⟨q9, by (first | decide +kernel | omega), by (first | decide +kernel | omega), by (first | decide +kernel | omega), by (first | decide +kernel | omega), by (first | decide +kernel | omega), by (first | decide +kernel | omega), by (first | decide +kernel | omega), by (first | decide +kernel | omega), by (first | decide +kernel | omega), by (first | decide +kernel | omega), by (first | decide +kernel | omega)⟩ else Or.inl ⟨by (first | decide +kernel | omega), by (first | decide +kernel | omega), by (first | decide +kernel | omega)⟩), R97⟩))), by (first | decide +kernel | omega), by (first | decide +kernel | omega), by (first | decide +kernel | omega), by rw [z4E]; omega, by rw [z4E]; omega⟩⟩⟩
          ·
            refine V_iload_n 3 d_Mod_readFresh_75 rfl rfl ?_
            refine V_goto 83 d_Mod_readFresh_76 (by decide) ?_
            refine N_putI fp_Mod_78 sk_116 rfl d_Mod_readFresh_83 (fun h100 eh100 => ?_)
            have hI101 : Inv h100 := inv_full hI77 eh100 rfl
            have f102 : fr S_Mod_readFreshX_7 h h100 := fr_put f78 eh100 rfl
            have R103 : RM h100 (x_upT T 4 (x_vl b p0)) D := RM_fresh (l := 4) R70 ⟨by decide, by decide⟩ eh76 (kn_call fh64 (kn_call fh5 zK rfl) rfl) (by (first | decide +kernel | omega)) (z4E.trans (by (first | decide +kernel | omega))) (by assumption) (by assumption) rfl eh100 z4E ((congrArg Int32.toInt (kn_call fh64 (kn_call fh5 iK rfl) rfl)).trans iE) (Or.inl ⟨by decide, by (first | decide +kernel | omega)⟩)
            refine V_aload_n 0 d_Mod_readFresh_86 rfl rfl ?_
            refine N_callVV [] [] cv_Mod_152 sk_116 rfl d_Mod_readFresh_87 rfl (Nat.le_of_ble_eq_true rfl) (by decide) (by decide) (c_Mod_nextX h100 b hI101 s sZ sE (kn_nei eh100 (kn_ne eh76 (kn_call fh64 (kn_call fh5 sK rfl) rfl) (by decide)) (by decide)) p pZ pE (kn_nei eh100 (kn_ne eh76 (kn_call fh64 (kn_call fh5 pK rfl) rfl) (by decide)) (by decide)) g gZ gE (kn_nei eh100 (kn_ne eh76 (kn_call fh64 (kn_call fh5 gK rfl) rfl) (by decide)) (by decide)) k kZ kE (kn_nei eh100 (kn_ne eh76 (kn_call fh64 (kn_call fh5 kK rfl) rfl) (by decide)) (by decide)) v vZ vE (kn_nei eh100 (kn_ne eh76 (kn_call fh64 (kn_call fh5 vK rfl) rfl) (by decide)) (by decide)) o68 o68Z o68E (kn_nei eh100 (kn_ne eh76 o68K (by decide)) (by decide)) o69 o69Z o69E (kn_nei eh100 (kn_ne eh76 o69K (by decide)) (by decide)) (TP_fr f102 (fun _ => rfl) hy0) (by (first | decide +kernel | omega))) (fun h105 p106 => ?_)
            obtain ⟨hI107, fh105, o109, o109Z, o109E, o109K, o110, o110Z, o110E, o110K, o111, o111Z, o111E, o111K, o112, o112Z, o112E, o112K, o113, o113Z, o113E, o113K, o114, o114Z, o114E, o114K, p106⟩ := p106
            have f108 : fr S_Mod_readFreshX_7 h h105 := fr_call f102 fh105 rfl
            have R115 : RM h105 (x_upT T 4 (x_vl b p0)) D := RM_fr fh105 rfl R103
            have g116 : 0 ≤ o109Z ∧ o109Z ≤ 160 := inv_at hI107 o109E o109K.symm rfl
            have g117 : 0 ≤ o110Z ∧ o110Z ≤ 160 := inv_at hI107 o110E o110K.symm rfl
            replace p106 := p106.resolve_left (fun q => by (first | decide +kernel | omega))
            refine V_iload_n 3 d_Mod_readFresh_90 rfl rfl ?_
            exact V_iret rfl d_Mod_readFresh_91 ⟨z4, rfl, ⟨hI107, f108, o109, o109Z, o109E, o109K, o110, o110Z, o110E, o110K, o111, o111Z, o111E, o111K, o112, o112Z, o112E, o112K, o113, o113Z, o113E, o113K, o114, o114Z, o114E, o114K, ⟨(Or.inr (Or.inr (⟨by (first | decide +kernel | omega), by (first | decide +kernel | omega), by rw [z4E]; omega, (if q9 : o113Z = 0 then Or.inr ⟨q9, by (first | decide +kernel | omega), by (first | decide +kernel | omega), by (first | decide +kernel | omega), by (first | decide +kernel | omega), by (first | decide +kernel | omega), by (first | decide +kernel | omega), by (first | decide +kernel | omega), by (first | decide +kernel | omega), by (first | decide +kernel | omega), by (first | decide +kernel | omega), by (first | decide +kernel | omega)⟩ else Or.inl ⟨by (first | decide +kernel | omega), by (first | decide +kernel | omega), by (first | decide +kernel | omega)⟩), R115⟩))), by (first | decide +kernel | omega), by (first | decide +kernel | omega), by (first | decide +kernel | omega), by rw [z4E]; omega, by rw [z4E]; omega⟩⟩⟩
def S_Mod_readFreshX_8 : List (Nat × Option Nat) := [(116, some 16), (116, some 17), (116, some 18), (116, some 19), (116, some 20), (116, some 21), (120, some 4), (116, some 13)]
abbrev q_Mod_readFreshX_8 (h : Hp) (b : Int → Int) (T : Nat → Int → Int) (D : Nat → Int) (p0 : Int) (s : Int32) (sZ : Int) (p : Int32) (pZ : Int) (g : Int32) (gZ : Int) (k : Int32) (kZ : Int) (v : Int32) (vZ : Int) (w : Int32) (wZ : Int) (a : Int32) (aZ : Int) (z : Int32) (zZ : Int) (i : Int32) (iZ : Int) : Option Value → Hp → Prop := pInt (fun r h' => Inv h' ∧ fr S_Mod_readFreshX_8 h h' ∧ ∃ (q : Int32) (qZ : Int), q.toInt = qZ ∧ h'.1 116 16 = q ∧ ∃ (f : Int32) (fZ : Int), f.toInt = fZ ∧ h'.1 116 17 = f ∧ ∃ (m : Int32) (mZ : Int), m.toInt = mZ ∧ h'.1 116 18 = m ∧ ∃ (x : Int32) (xZ : Int), x.toInt = xZ ∧ h'.1 116 19 = x ∧ ∃ (u : Int32) (uZ : Int), u.toInt = uZ ∧ h'.1 116 20 = u ∧ ∃ (y : Int32) (yZ : Int), y.toInt = yZ ∧ h'.1 116 21 = y ∧ ((x_cN b p0 0 3 ≠ 0 ∧ uZ = x_cN b p0 0 3 ∧ yZ = x_fr b p0 ∨ x_cN b p0 0 3 = 0 ∧ x_c4 (T 5 (x_vl b p0)) ≠ 0 ∧ uZ = 4 ∧ yZ = x_fr b p0 ∨ x_cN b p0 0 3 = 0 ∧ x_c4 (T 5 (x_vl b p0)) = 0 ∧ r.toInt = x_vl b p0 ∧ (uZ = 1 ∧ x_kd b (x_en b p0) = 4 ∧ yZ = x_fr b (x_en b p0) ∨ uZ = 0 ∧ fZ = x_fr b (x_en b p0) ∧ mZ = x_kd b (x_en b p0) ∧ mZ ≠ 4 ∧ 0 ≤ mZ ∧ mZ ≤ 3 ∧ qZ = x_en b (x_en b p0) ∧ (mZ ≠ 2 ∨ xZ = x_vl b (x_en b p0) ∧ 0 ≤ xZ ∧ xZ ≤ 99) ∧ (x_en b p0) ≤ fZ ∧ fZ ≤ qZ ∧ qZ ≤ sZ ∧ (mZ = 0 ∨ fZ < qZ)) ∧ RM h' (x_upT T 5 (x_vl b p0)) D) ∧ 0 ≤ qZ ∧ qZ ≤ sZ ∧ 0 ≤ uZ ∧ 0 ≤ r.toInt ∧ r.toInt ≤ 3))
set_option maxRecDepth 100000 in
theorem c_Mod_readFreshX_8 (h : Hp) (b : Int → Int) (T : Nat → Int → Int) (D : Nat → Int) (p0 : Int) (hI : Inv h) (s : Int32) (sZ : Int) (sE : s.toInt = sZ) (sK : h.1 116 15 = s) (p : Int32) (pZ : Int) (pE : p.toInt = pZ) (pK : h.1 116 16 = p) (g : Int32) (gZ : Int) (gE : g.toInt = gZ) (gK : h.1 116 17 = g) (k : Int32) (kZ : Int) (kE : k.toInt = kZ) (kK : h.1 116 18 = k) (v : Int32) (vZ : Int) (vE : v.toInt = vZ) (vK : h.1 116 19 = v) (w : Int32) (wZ : Int) (wE : w.toInt = wZ) (wK : h.1 116 20 = w) (a : Int32) (aZ : Int) (aE : a.toInt = aZ) (aK : h.1 116 21 = a) (z : Int32) (zZ : Int) (zE : z.toInt = zZ) (zK : h.1 120 4 = z) (i : Int32) (iZ : Int) (iE : i.toInt = iZ) (iK : h.1 116 13 = i) (hy0 : TP h 121 sZ b) (hy1 : 0 ≤ pZ ∧ pZ ≤ sZ ∧ wZ = 0) (hy2 : gZ = x_fr b p0 ∧ kZ = x_kd b p0 ∧ kZ ≠ 4 ∧ 0 ≤ kZ ∧ kZ ≤ 3 ∧ pZ = x_en b p0 ∧ (kZ ≠ 2 ∨ vZ = x_vl b p0 ∧ 0 ≤ vZ ∧ vZ ≤ 99) ∧ p0 ≤ gZ ∧ gZ ≤ pZ ∧ pZ ≤ sZ ∧ (kZ = 0 ∨ gZ < pZ)) (hy3 : RM h T D) : Ct y_Mod_readFresh b_Mod_readFresh 4 (some .int) 2 47 [.ref 116, .int 8, .int 3] h (q_Mod_readFreshX_8 h b T D p0 s sZ p pZ g gZ k kZ v vZ w wZ a aZ z zZ i iZ) := by
  refine ct_ow R_Mod [some (.ref 116), some (.int 8), some (.int 3), none] rfl (by decide) rfl (Nat.le_of_ble_eq_true rfl) ?_
  have f0 : fr S_Mod_readFreshX_8 h h := fr_rf
  have g1 : 0 ≤ sZ ∧ sZ ≤ 160 := inv_at hI sE sK.symm rfl
  have g2 : 0 ≤ pZ ∧ pZ ≤ 160 := inv_at hI pE pK.symm rfl
  have g3 : 0 ≤ gZ ∧ gZ ≤ 160 := inv_at hI gE gK.symm rfl
  refine V_aload_n 0 d_Mod_readFresh_0 rfl rfl ?_
  refine V_iconst 0 d_Mod_readFresh_1 (by decide) ?_
  refine V_iload_n 2 d_Mod_readFresh_2 rfl rfl ?_
  refine N_callVI [.int 0, .int 3] [] cv_Mod_148 sk_116 rfl d_Mod_readFresh_3 rfl (Nat.le_of_ble_eq_true rfl) (by decide) (by decide) (c_Mod_lookedX h hI 0 0 tc_0 3 3 tc_3 g gZ gE gK k kZ kE kK v vZ vE vK w wZ wE wK a aZ aE aK) (fun z4 h5 z4Z z4E p6 => ?_)
  obtain ⟨hI7, fh5, o9, o9Z, o9E, o9K, o10, o10Z, o10E, o10K, p6⟩ := p6
  have f8 : fr S_Mod_readFreshX_8 h h5 := fr_call f0 fh5 rfl
  have R11 : RM h5 T D := RM_fr fh5 rfl hy3
  refine V_istore_n 3 [some (.ref 116), some (.int 8), some (.int 3), some (.int z4)] d_Mod_readFresh_6 rfl (by decide) rfl rfl ?_
  replace p6 := lk_all hy2 hy1.2.2 p6
  replace hy2 := lx_s hy2
  have g12 : x_fr b pZ = x_fr b (x_en b p0) := congrArg (x_fr b) (by (first | decide +kernel | omega))
  have g13 : x_kd b pZ = x_kd b (x_en b p0) := congrArg (x_kd b) (by (first | decide +kernel | omega))
  have g14 : x_en b pZ = x_en b (x_en b p0) := congrArg (x_en b) (by (first | decide +kernel | omega))
  have g15 : x_vl b pZ = x_vl b (x_en b p0) := congrArg (x_vl b) (by (first | decide +kernel | omega))
  refine V_aload_n 0 d_Mod_readFresh_7 rfl rfl ?_
  refine N_getK fa_Mod_102 sk_116 rfl d_Mod_readFresh_8 o9K ?_
  refine V_if_ne 39 o9E d_Mod_readFresh_11 (by decide) (fun c16 => ?_) (fun c16 => ?_)
  ·
    replace p6 := And.intro p6.1 (p6.2.resolve_right (fun q => by (first | decide +kernel | omega)))
    refine V_aload_n 0 d_Mod_readFresh_39 rfl rfl ?_
    refine N_getK fa_Mod_102 sk_116 rfl d_Mod_readFresh_40 o9K ?_
    refine V_if_ne 86 o9E d_Mod_readFresh_43 (by decide) (fun c17 => ?_) (fun c17 => ?_)
    ·
      refine V_aload_n 0 d_Mod_readFresh_86 rfl rfl ?_
      refine N_callVV [] [] cv_Mod_152 sk_116 rfl d_Mod_readFresh_87 rfl (Nat.le_of_ble_eq_true rfl) (by decide) (by decide) (c_Mod_nextX h5 b hI7 s sZ sE (kn_call fh5 sK rfl) p pZ pE (kn_call fh5 pK rfl) g gZ gE (kn_call fh5 gK rfl) k kZ kE (kn_call fh5 kK rfl) v vZ vE (kn_call fh5 vK rfl) o9 o9Z o9E o9K o10 o10Z o10E o10K (TP_fr f8 (fun _ => rfl) hy0) (by (first | decide +kernel | omega))) (fun h19 p20 => ?_)
      obtain ⟨hI21, fh19, o23, o23Z, o23E, o23K, o24, o24Z, o24E, o24K, o25, o25Z, o25E, o25K, o26, o26Z, o26E, o26K, o27, o27Z, o27E, o27K, o28, o28Z, o28E, o28K, p20⟩ := p20
      have f22 : fr S_Mod_readFreshX_8 h h19 := fr_call f8 fh19 rfl
      have R29 : RM h19 T D := RM_fr fh19 rfl R11
      have g30 : 0 ≤ o23Z ∧ o23Z ≤ 160 := inv_at hI21 o23E o23K.symm rfl
      have g31 : 0 ≤ o24Z ∧ o24Z ≤ 160 := inv_at hI21 o24E o24K.symm rfl
      replace p20 := p20.resolve_right (fun q => by (first | decide +kernel | omega))
      refine V_iload_n 3 d_Mod_readFresh_90 rfl rfl ?_
      exact V_iret rfl d_Mod_readFresh_91 ⟨z4, rfl, ⟨hI21, f22, o23, o23Z, o23E, o23K, o24, o24Z, o24E, o24K, o25, o25Z, o25E, o25K, o26, o26Z, o26E, o26K, o27, o27Z, o27E, o27K, o28, o28Z, o28E, o28K, ⟨(Or.inl (⟨by (first | decide +kernel | omega), by (first | decide +kernel | omega), by (first | decide +kernel | omega)⟩)), by (first | decide +kernel | omega), by (first | decide +kernel | omega), by (first | decide +kernel | omega), by rw [z4E]; omega, by rw [z4E]; omega⟩⟩⟩
    ·
      exact absurd c17 (by (first | decide +kernel | omega))
  ·
    replace p6 := And.intro p6.1 (p6.2.resolve_left (fun q => by (first | decide +kernel | omega)))
    refine V_aload_n 0 d_Mod_readFresh_14 rfl rfl ?_
    refine V_aload_n 0 d_Mod_readFresh_15 rfl rfl ?_
    refine V_getR fa_Mod_20 sk_116 rfl d_Mod_readFresh_16 ?_
    refine V_iload_n 1 d_Mod_readFresh_19 rfl rfl ?_
    refine V_iconst 4 d_Mod_readFresh_20 (by decide) ?_
    refine V_isubw d_Mod_readFresh_21 (fun z32 z32e => ?_)
    obtain rfl : z32 = 4 := z32e.trans (by decide)
    refine N_ialdK sk_120 tc_4 (by (first | decide +kernel | omega)) d_Mod_readFresh_22 (kn_call fh5 zK rfl) ?_
    refine V_iload_n 3 d_Mod_readFresh_23 rfl rfl ?_
    refine N_ishr d_Mod_readFresh_24 (fun z34 z34Z z34E z34e => ?_)
    refine V_iconst 1 d_Mod_readFresh_25 (by decide) ?_
    refine N_iand d_Mod_readFresh_26 (fun z35 z35Z z35E z35e => ?_)
    have g36 : z35Z = T 5 z4Z := x_bt_of (RM_had R11 (by decide) (by decide) (kn_call fh5 zK rfl)) (by (first | decide +kernel | omega)) (by (first | decide +kernel | omega)) z4E z35E (by assumption) (by assumption)
    have g37 : T 5 z4Z = T 5 (x_vl b p0) := congrArg (T 5) (by (first | decide +kernel | omega))
    have g38 := x_c4_s (T 5 (x_vl b p0))
    refine V_if_ne 34 z35E d_Mod_readFresh_27 (by decide) (fun c39 => ?_) (fun c39 => ?_)
    ·
      replace g38 := g38.resolve_left (fun q => by (first | decide +kernel | omega))
      refine V_iconst 0 d_Mod_readFresh_34 (by decide) ?_
      refine V_iconst 4 d_Mod_readFresh_35 (by decide) ?_
      refine N_callVV [.int 0, .int 4] [] cv_Mod_144 sk_116 rfl d_Mod_readFresh_36 rfl (Nat.le_of_ble_eq_true rfl) (by decide) (by decide) (c_Mod_needsX h5 hI7 0 0 tc_0 4 4 tc_4 g gZ gE (kn_call fh5 gK rfl) o9 o9Z o9E o9K o10 o10Z o10E o10K) (fun h41 p42 => ?_)
      obtain ⟨hI43, fh41, o45, o45Z, o45E, o45K, o46, o46Z, o46E, o46K, p42⟩ := p42
      have f44 : fr S_Mod_readFreshX_8 h h41 := fr_call f8 fh41 rfl
      have R47 : RM h41 T D := RM_fr fh41 rfl R11
      replace p42 := (p42.resolve_left (by (first | decide +kernel | omega))).2.2
      refine V_aload_n 0 d_Mod_readFresh_39 rfl rfl ?_
      refine N_getK fa_Mod_102 sk_116 rfl d_Mod_readFresh_40 o45K ?_
      refine V_if_ne 86 o45E d_Mod_readFresh_43 (by decide) (fun c48 => ?_) (fun c48 => ?_)
      ·
        refine V_aload_n 0 d_Mod_readFresh_86 rfl rfl ?_
        refine N_callVV [] [] cv_Mod_152 sk_116 rfl d_Mod_readFresh_87 rfl (Nat.le_of_ble_eq_true rfl) (by decide) (by decide) (c_Mod_nextX h41 b hI43 s sZ sE (kn_call fh41 (kn_call fh5 sK rfl) rfl) p pZ pE (kn_call fh41 (kn_call fh5 pK rfl) rfl) g gZ gE (kn_call fh41 (kn_call fh5 gK rfl) rfl) k kZ kE (kn_call fh41 (kn_call fh5 kK rfl) rfl) v vZ vE (kn_call fh41 (kn_call fh5 vK rfl) rfl) o45 o45Z o45E o45K o46 o46Z o46E o46K (TP_fr f44 (fun _ => rfl) hy0) (by (first | decide +kernel | omega))) (fun h50 p51 => ?_)
        obtain ⟨hI52, fh50, o54, o54Z, o54E, o54K, o55, o55Z, o55E, o55K, o56, o56Z, o56E, o56K, o57, o57Z, o57E, o57K, o58, o58Z, o58E, o58K, o59, o59Z, o59E, o59K, p51⟩ := p51
        have f53 : fr S_Mod_readFreshX_8 h h50 := fr_call f44 fh50 rfl
        have R60 : RM h50 T D := RM_fr fh50 rfl R47
        have g61 : 0 ≤ o54Z ∧ o54Z ≤ 160 := inv_at hI52 o54E o54K.symm rfl
        have g62 : 0 ≤ o55Z ∧ o55Z ≤ 160 := inv_at hI52 o55E o55K.symm rfl
        replace p51 := p51.resolve_right (fun q => by (first | decide +kernel | omega))
        refine V_iload_n 3 d_Mod_readFresh_90 rfl rfl ?_
        exact V_iret rfl d_Mod_readFresh_91 ⟨z4, rfl, ⟨hI52, f53, o54, o54Z, o54E, o54K, o55, o55Z, o55E, o55K, o56, o56Z, o56E, o56K, o57, o57Z, o57E, o57K, o58, o58Z, o58E, o58K, o59, o59Z, o59E, o59K, ⟨(Or.inr (Or.inl (⟨by (first | decide +kernel | omega), by (first | decide +kernel | omega), by (first | decide +kernel | omega), by (first | decide +kernel | omega)⟩))), by (first | decide +kernel | omega), by (first | decide +kernel | omega), by (first | decide +kernel | omega), by rw [z4E]; omega, by rw [z4E]; omega⟩⟩⟩
      ·
        exact absurd c48 (by (first | decide +kernel | omega))
    ·
      replace g38 := g38.resolve_right (fun q => by (first | decide +kernel | omega))
      refine V_iconst 1 d_Mod_readFresh_30 (by decide) ?_
      refine V_goto 35 d_Mod_readFresh_31 (by decide) ?_
      refine V_iconst 4 d_Mod_readFresh_35 (by decide) ?_
      refine N_callVV [.int 1, .int 4] [] cv_Mod_144 sk_116 rfl d_Mod_readFresh_36 rfl (Nat.le_of_ble_eq_true rfl) (by decide) (by decide) (c_Mod_needsX h5 hI7 1 1 tc_1 4 4 tc_4 g gZ gE (kn_call fh5 gK rfl) o9 o9Z o9E o9K o10 o10Z o10E o10K) (fun h64 p65 => ?_)
      obtain ⟨hI66, fh64, o68, o68Z, o68E, o68K, o69, o69Z, o69E, o69K, p65⟩ := p65
      have f67 : fr S_Mod_readFreshX_8 h h64 := fr_call f8 fh64 rfl
      have R70 : RM h64 T D := RM_fr fh64 rfl R11
      replace p65 := (p65.resolve_right (by (first | decide +kernel | omega))).2
      refine V_aload_n 0 d_Mod_readFresh_39 rfl rfl ?_
      refine N_getK fa_Mod_102 sk_116 rfl d_Mod_readFresh_40 o68K ?_
      refine V_if_ne 86 o68E d_Mod_readFresh_43 (by decide) (fun c71 => ?_) (fun c71 => ?_)
      ·
        exact absurd c71 (by (first | decide +kernel | omega))
      ·
        refine V_aload_n 0 d_Mod_readFresh_46 rfl rfl ?_
        refine V_getR fa_Mod_20 sk_116 rfl d_Mod_readFresh_47 ?_
        refine V_iload_n 1 d_Mod_readFresh_50 rfl rfl ?_
        refine V_iconst 4 d_Mod_readFresh_51 (by decide) ?_
        refine V_isubw d_Mod_readFresh_52 (fun z72 z72e => ?_)
        obtain rfl : z72 = 4 := z72e.trans (by decide)
        refine V_dup2 d_Mod_readFresh_53 rfl rfl ?_
        refine N_ialdK sk_120 tc_4 (by (first | decide +kernel | omega)) d_Mod_readFresh_54 (kn_call fh64 (kn_call fh5 zK rfl) rfl) ?_
        refine V_iconst 1 d_Mod_readFresh_55 (by decide) ?_
        refine V_iload_n 3 d_Mod_readFresh_56 rfl rfl ?_
        refine N_ishl d_Mod_readFresh_57 (fun z74 z74Z z74E z74e => ?_)
        refine N_ior d_Mod_readFresh_58 (fun z75 z75Z z75E z75e => ?_)
        refine N_iast sk_120 tc_4 (by (first | decide +kernel | omega)) d_Mod_readFresh_59 (fun h76 eh76 => ?_)
        have hI77 : Inv h76 := inv_full hI66 eh76 rfl
        have f78 : fr S_Mod_readFreshX_8 h h76 := fr_put f67 eh76 rfl
        refine V_aload_n 0 d_Mod_readFresh_60 rfl rfl ?_
        refine V_iload_n 1 d_Mod_readFresh_61 rfl rfl ?_
        refine V_bipush 8 d_Mod_readFresh_62 (by decide) ?_
        refine V_icmp_ge 79 tc_8 tc_8 d_Mod_readFresh_64 (by decide) (fun c80 => ?_) (fun c80 => ?_)
        ·
          refine V_aload_n 0 d_Mod_readFresh_79 rfl rfl ?_
          refine N_getK fa_Mod_78 sk_116 rfl d_Mod_readFresh_80 (kn_ne eh76 (kn_call fh64 (kn_call fh5 iK rfl) rfl) (by decide)) ?_
          refine N_putI fp_Mod_78 sk_116 rfl d_Mod_readFresh_83 (fun h81 eh81 => ?_)
          have hI82 : Inv h81 := inv_full hI77 eh81 rfl
          have f83 : fr S_Mod_readFreshX_8 h h81 := fr_put f78 eh81 rfl
          have R84 : RM h81 (x_upT T 5 (x_vl b p0)) D := RM_fresh (l := 5) R70 ⟨by decide, by decide⟩ eh76 (kn_call fh64 (kn_call fh5 zK rfl) rfl) (by (first | decide +kernel | omega)) (z4E.trans (by (first | decide +kernel | omega))) (by assumption) (by assumption) rfl eh81 iE ((congrArg Int32.toInt (kn_call fh64 (kn_call fh5 iK rfl) rfl)).trans iE) (Or.inr ⟨rfl, by (first | decide +kernel | omega)⟩)
          refine V_aload_n 0 d_Mod_readFresh_86 rfl rfl ?_
          refine N_callVV [] [] cv_Mod_152 sk_116 rfl d_Mod_readFresh_87 rfl (Nat.le_of_ble_eq_true rfl) (by decide) (by decide) (c_Mod_nextX h81 b hI82 s sZ sE (kn_nei eh81 (kn_ne eh76 (kn_call fh64 (kn_call fh5 sK rfl) rfl) (by decide)) (by decide)) p pZ pE (kn_nei eh81 (kn_ne eh76 (kn_call fh64 (kn_call fh5 pK rfl) rfl) (by decide)) (by decide)) g gZ gE (kn_nei eh81 (kn_ne eh76 (kn_call fh64 (kn_call fh5 gK rfl) rfl) (by decide)) (by decide)) k kZ kE (kn_nei eh81 (kn_ne eh76 (kn_call fh64 (kn_call fh5 kK rfl) rfl) (by decide)) (by decide)) v vZ vE (kn_nei eh81 (kn_ne eh76 (kn_call fh64 (kn_call fh5 vK rfl) rfl) (by decide)) (by decide)) o68 o68Z o68E (kn_nei eh81 (kn_ne eh76 o68K (by decide)) (by decide)) o69 o69Z o69E (kn_nei eh81 (kn_ne eh76 o69K (by decide)) (by decide)) (TP_fr f83 (fun _ => rfl) hy0) (by (first | decide +kernel | omega))) (fun h86 p87 => ?_)
          obtain ⟨hI88, fh86, o90, o90Z, o90E, o90K, o91, o91Z, o91E, o91K, o92, o92Z, o92E, o92K, o93, o93Z, o93E, o93K, o94, o94Z, o94E, o94K, o95, o95Z, o95E, o95K, p87⟩ := p87
          have f89 : fr S_Mod_readFreshX_8 h h86 := fr_call f83 fh86 rfl
          have R96 : RM h86 (x_upT T 5 (x_vl b p0)) D := RM_fr fh86 rfl R84
          have g97 : 0 ≤ o90Z ∧ o90Z ≤ 160 := inv_at hI88 o90E o90K.symm rfl
          have g98 : 0 ≤ o91Z ∧ o91Z ≤ 160 := inv_at hI88 o91E o91K.symm rfl
          replace p87 := p87.resolve_left (fun q => by (first | decide +kernel | omega))
          refine V_iload_n 3 d_Mod_readFresh_90 rfl rfl ?_
          exact V_iret rfl d_Mod_readFresh_91 ⟨z4, rfl, ⟨hI88, f89, o90, o90Z, o90E, o90K, o91, o91Z, o91E, o91K, o92, o92Z, o92E, o92K, o93, o93Z, o93E, o93K, o94, o94Z, o94E, o94K, o95, o95Z, o95E, o95K, ⟨(Or.inr (Or.inr (⟨by (first | decide +kernel | omega), by (first | decide +kernel | omega), by rw [z4E]; omega, (if q9 : o94Z = 0 then Or.inr ⟨q9, by (first | decide +kernel | omega), by (first | decide +kernel | omega), by (first | decide +kernel | omega), by (first | decide +kernel | omega), by (first | decide +kernel | omega), by (first | decide +kernel | omega), by (first | decide +kernel | omega), by (first | decide +kernel | omega), by (first | decide +kernel | omega), by (first | decide +kernel | omega), by (first | decide +kernel | omega)⟩ else Or.inl ⟨by (first | decide +kernel | omega), by (first | decide +kernel | omega), by (first | decide +kernel | omega)⟩), R96⟩))), by (first | decide +kernel | omega), by (first | decide +kernel | omega), by (first | decide +kernel | omega), by rw [z4E]; omega, by rw [z4E]; omega⟩⟩⟩
        ·
          exact absurd c80 (by decide)
