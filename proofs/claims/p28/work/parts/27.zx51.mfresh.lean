section
def S_Mod_readFreshX_4 : List (Nat × Option Nat) := [(116, some 16), (116, some 17), (116, some 18), (116, some 19), (116, some 20), (116, some 21), (120, some 0), (116, some 13)]
abbrev q_Mod_readFreshX_4 (h : Hp) (b : Int → Int) (T : Nat → Int → Int) (D : Nat → Int) (p0 : Int) (s : Int32) (sZ : Int) (p : Int32) (pZ : Int) (g : Int32) (gZ : Int) (k : Int32) (kZ : Int) (v : Int32) (vZ : Int) (w : Int32) (wZ : Int) (a : Int32) (aZ : Int) (z : Int32) (zZ : Int) (i : Int32) (iZ : Int) : Option Value → Hp → Prop := pInt (fun r h' => Inv h' ∧ fr S_Mod_readFreshX_4 h h' ∧ ∃ (q : Int32) (qZ : Int), q.toInt = qZ ∧ h'.1 116 16 = q ∧ ∃ (f : Int32) (fZ : Int), f.toInt = fZ ∧ h'.1 116 17 = f ∧ ∃ (m : Int32) (mZ : Int), m.toInt = mZ ∧ h'.1 116 18 = m ∧ ∃ (x : Int32) (xZ : Int), x.toInt = xZ ∧ h'.1 116 19 = x ∧ ∃ (u : Int32) (uZ : Int), u.toInt = uZ ∧ h'.1 116 20 = u ∧ ∃ (y : Int32) (yZ : Int), y.toInt = yZ ∧ h'.1 116 21 = y ∧ ((x_cN b p0 0 15 ≠ 0 ∧ uZ = x_cN b p0 0 15 ∧ yZ = x_fr b p0 ∨ x_cN b p0 0 15 = 0 ∧ x_c4 (T 1 (x_vl b p0)) ≠ 0 ∧ uZ = 4 ∧ yZ = x_fr b p0 ∨ x_cN b p0 0 15 = 0 ∧ x_c4 (T 1 (x_vl b p0)) = 0 ∧ r.toInt = x_vl b p0 ∧ (uZ = 1 ∧ x_kd b (x_en b p0) = 4 ∧ yZ = x_fr b (x_en b p0) ∨ uZ = 0 ∧ fZ = x_fr b (x_en b p0) ∧ mZ = x_kd b (x_en b p0) ∧ mZ ≠ 4 ∧ 0 ≤ mZ ∧ mZ ≤ 3 ∧ qZ = x_en b (x_en b p0) ∧ (mZ ≠ 2 ∨ xZ = x_vl b (x_en b p0) ∧ 0 ≤ xZ ∧ xZ ≤ 99) ∧ (x_en b p0) ≤ fZ ∧ fZ ≤ qZ ∧ qZ ≤ sZ ∧ (mZ = 0 ∨ fZ < qZ)) ∧ RM h' (x_upT T 1 (x_vl b p0)) D) ∧ 0 ≤ qZ ∧ qZ ≤ sZ ∧ 0 ≤ uZ ∧ 0 ≤ r.toInt ∧ r.toInt ≤ 15))
set_option maxRecDepth 100000 in
theorem c_Mod_readFreshX_4 (h : Hp) (b : Int → Int) (T : Nat → Int → Int) (D : Nat → Int) (p0 : Int) (hI : Inv h) (s : Int32) (sZ : Int) (sE : s.toInt = sZ) (sK : h.1 116 15 = s) (p : Int32) (pZ : Int) (pE : p.toInt = pZ) (pK : h.1 116 16 = p) (g : Int32) (gZ : Int) (gE : g.toInt = gZ) (gK : h.1 116 17 = g) (k : Int32) (kZ : Int) (kE : k.toInt = kZ) (kK : h.1 116 18 = k) (v : Int32) (vZ : Int) (vE : v.toInt = vZ) (vK : h.1 116 19 = v) (w : Int32) (wZ : Int) (wE : w.toInt = wZ) (wK : h.1 116 20 = w) (a : Int32) (aZ : Int) (aE : a.toInt = aZ) (aK : h.1 116 21 = a) (z : Int32) (zZ : Int) (zE : z.toInt = zZ) (zK : h.1 120 0 = z) (i : Int32) (iZ : Int) (iE : i.toInt = iZ) (iK : h.1 116 13 = i) (hy0 : TP h 121 sZ b) (hy1 : 0 ≤ pZ ∧ pZ ≤ sZ ∧ wZ = 0) (hy2 : gZ = x_fr b p0 ∧ kZ = x_kd b p0 ∧ kZ ≠ 4 ∧ 0 ≤ kZ ∧ kZ ≤ 3 ∧ pZ = x_en b p0 ∧ (kZ ≠ 2 ∨ vZ = x_vl b p0 ∧ 0 ≤ vZ ∧ vZ ≤ 99) ∧ p0 ≤ gZ ∧ gZ ≤ pZ ∧ pZ ≤ sZ ∧ (kZ = 0 ∨ gZ < pZ)) (hy3 : RM h T D) : Ct y_Mod_readFresh b_Mod_readFresh 4 (some .int) 2 47 [.ref 116, .int 4, .int 15] h (q_Mod_readFreshX_4 h b T D p0 s sZ p pZ g gZ k kZ v vZ w wZ a aZ z zZ i iZ) := by
  refine ct_ow R_Mod [some (.ref 116), some (.int 4), some (.int 15), none] rfl (by decide) rfl (Nat.le_of_ble_eq_true rfl) ?_
  have f0 : fr S_Mod_readFreshX_4 h h := fr_rf
  have g1 : 0 ≤ sZ ∧ sZ ≤ 160 := inv_at hI sE sK.symm rfl
  have g2 : 0 ≤ pZ ∧ pZ ≤ 160 := inv_at hI pE pK.symm rfl
  have g3 : 0 ≤ gZ ∧ gZ ≤ 160 := inv_at hI gE gK.symm rfl
  refine V_aload_n 0 d_Mod_readFresh_0 rfl rfl ?_
  refine V_iconst 0 d_Mod_readFresh_1 (by decide) ?_
  refine V_iload_n 2 d_Mod_readFresh_2 rfl rfl ?_
  refine N_callVI [.int 0, .int 15] [] cv_Mod_148 sk_116 rfl d_Mod_readFresh_3 rfl (Nat.le_of_ble_eq_true rfl) (by decide) (by decide) (c_Mod_lookedX h hI 0 0 tc_0 15 15 tc_15 g gZ gE gK k kZ kE kK v vZ vE vK w wZ wE wK a aZ aE aK) (fun z4 h5 z4Z z4E p6 => ?_)
  obtain ⟨hI7, fh5, o9, o9Z, o9E, o9K, o10, o10Z, o10E, o10K, p6⟩ := p6
  have f8 : fr S_Mod_readFreshX_4 h h5 := fr_call f0 fh5 rfl
  have R11 : RM h5 T D := RM_fr fh5 rfl hy3
  refine V_istore_n 3 [some (.ref 116), some (.int 4), some (.int 15), some (.int z4)] d_Mod_readFresh_6 rfl (by decide) rfl rfl ?_
  replace p6 := lk_all hy2 hy1.2.2 p6
  replace hy2 := lx_s hy2
  have g12 : x_fr b pZ = x_fr b (x_en b p0) := congrArg (x_fr b) (by (first | decide +kernel | omega))
  have g13 : x_kd b pZ = x_kd b (x_en b p0) := congrArg (x_kd b) (by (first | decide +kernel | omega))
  have g14 : x_en b pZ = x_en b (x_en b p0) := congrArg (x_en b) (by (first | decide +kernel | omega))
  have g15 : x_vl b pZ = x_vl b (x_en b p0) := congrArg (x_vl b) (by (first | decide +kernel | omega))
  refine V_aload_n 0 d_Mod_readFresh_7 rfl rfl ?_
  refine N_getK fa_Mod_102 sk_116 rfl d_Mod_readFresh_8 o9K ?_
  refine V_if_ne 39 o9E d_Mod_readFresh_11 (by decide) (fun c16 => ?_) (fun c16 => ?_)
  ·
    replace p6 := And.intro p6.1 (p6.2.resolve_right (fun q => by (first | decide +kernel | omega)))
    refine V_aload_n 0 d_Mod_readFresh_39 rfl rfl ?_
    refine N_getK fa_Mod_102 sk_116 rfl d_Mod_readFresh_40 o9K ?_
    refine V_if_ne 86 o9E d_Mod_readFresh_43 (by decide) (fun c17 => ?_) (fun c17 => ?_)
    ·
      refine V_aload_n 0 d_Mod_readFresh_86 rfl rfl ?_
      refine N_callVV [] [] cv_Mod_152 sk_116 rfl d_Mod_readFresh_87 rfl (Nat.le_of_ble_eq_true rfl) (by decide) (by decide) (c_Mod_nextX h5 b hI7 s sZ sE (kn_call fh5 sK rfl) p pZ pE (kn_call fh5 pK rfl) g gZ gE (kn_call fh5 gK rfl) k kZ kE (kn_call fh5 kK rfl) v vZ vE (kn_call fh5 vK rfl) o9 o9Z o9E o9K o10 o10Z o10E o10K (TP_fr f8 (fun _ => rfl) hy0) (by (first | decide +kernel | omega))) (fun h19 p20 => ?_)
      obtain ⟨hI21, fh19, o23, o23Z, o23E, o23K, o24, o24Z, o24E, o24K, o25, o25Z, o25E, o25K, o26, o26Z, o26E, o26K, o27, o27Z, o27E, o27K, o28, o28Z, o28E, o28K, p20⟩ := p20
      have f22 : fr S_Mod_readFreshX_4 h h19 := fr_call f8 fh19 rfl
      have R29 : RM h19 T D := RM_fr fh19 rfl R11
      have g30 : 0 ≤ o23Z ∧ o23Z ≤ 160 := inv_at hI21 o23E o23K.symm rfl
      have g31 : 0 ≤ o24Z ∧ o24Z ≤ 160 := inv_at hI21 o24E o24K.symm rfl
      replace p20 := p20.resolve_right (fun q => by (first | decide +kernel | omega))
      refine V_iload_n 3 d_Mod_readFresh_90 rfl rfl ?_
      exact V_iret rfl d_Mod_readFresh_91 ⟨z4, rfl, ⟨hI21, f22, o23, o23Z, o23E, o23K, o24, o24Z, o24E, o24K, o25, o25Z, o25E, o25K, o26, o26Z, o26E, o26K, o27, o27Z, o27E, o27K, o28, o28Z, o28E, o28K, ⟨(Or.inl (⟨by (first | decide +kernel | omega), by (first | decide +kernel | omega), by (first | decide +kernel | omega)⟩)), by (first | decide +kernel | omega), by (first | decide +kernel | omega), by (first | decide +kernel | omega), by rw [z4E]; omega, by rw [z4E]; omega⟩⟩⟩
    ·
      exact absurd c17 (by (first | decide +kernel | omega))
  ·
    replace p6 := And.intro p6.1 (p6.2.resolve_left (fun q => by (first | decide +kernel | omega)))
    refine V_aload_n 0 d_Mod_readFresh_14 rfl rfl ?_
    refine V_aload_n 0 d_Mod_readFresh_15 rfl rfl ?_
    refine V_getR fa_Mod_20 sk_116 rfl d_Mod_readFresh_16 ?_
    refine V_iload_n 1 d_Mod_readFresh_19 rfl rfl ?_
    refine V_iconst 4 d_Mod_readFresh_20 (by decide) ?_
    refine V_isubw d_Mod_readFresh_21 (fun z32 z32e => ?_)
    obtain rfl : z32 = 0 := z32e.trans (by decide)
    refine N_ialdK sk_120 tc_0 (by (first | decide +kernel | omega)) d_Mod_readFresh_22 (kn_call fh5 zK rfl) ?_
    refine V_iload_n 3 d_Mod_readFresh_23 rfl rfl ?_
    refine N_ishr d_Mod_readFresh_24 (fun z34 z34Z z34E z34e => ?_)
    refine V_iconst 1 d_Mod_readFresh_25 (by decide) ?_
    refine N_iand d_Mod_readFresh_26 (fun z35 z35Z z35E z35e => ?_)
    have g36 : z35Z = T 1 z4Z := x_bt_of (RM_had R11 (by decide) (by decide) (kn_call fh5 zK rfl)) (by (first | decide +kernel | omega)) (by (first | decide +kernel | omega)) z4E z35E (by assumption) (by assumption)
    have g37 : T 1 z4Z = T 1 (x_vl b p0) := congrArg (T 1) (by (first | decide +kernel | omega))
    have g38 := x_c4_s (T 1 (x_vl b p0))
    refine V_if_ne 34 z35E d_Mod_readFresh_27 (by decide) (fun c39 => ?_) (fun c39 => ?_)
    ·
      replace g38 := g38.resolve_left (fun q => by (first | decide +kernel | omega))
      refine V_iconst 0 d_Mod_readFresh_34 (by decide) ?_
      refine V_iconst 4 d_Mod_readFresh_35 (by decide) ?_
      refine N_callVV [.int 0, .int 4] [] cv_Mod_144 sk_116 rfl d_Mod_readFresh_36 rfl (Nat.le_of_ble_eq_true rfl) (by decide) (by decide) (c_Mod_needsX h5 hI7 0 0 tc_0 4 4 tc_4 g gZ gE (kn_call fh5 gK rfl) o9 o9Z o9E o9K o10 o10Z o10E o10K) (fun h41 p42 => ?_)
      obtain ⟨hI43, fh41, o45, o45Z, o45E, o45K, o46, o46Z, o46E, o46K, p42⟩ := p42
      have f44 : fr S_Mod_readFreshX_4 h h41 := fr_call f8 fh41 rfl
      have R47 : RM h41 T D := RM_fr fh41 rfl R11
      replace p42 := (p42.resolve_left (by (first | decide +kernel | omega))).2.2
      refine V_aload_n 0 d_Mod_readFresh_39 rfl rfl ?_
      refine N_getK fa_Mod_102 sk_116 rfl d_Mod_readFresh_40 o45K ?_
      refine V_if_ne 86 o45E d_Mod_readFresh_43 (by decide) (fun c48 => ?_) (fun c48 => ?_)
      ·
        refine V_aload_n 0 d_Mod_readFresh_86 rfl rfl ?_
        refine N_callVV [] [] cv_Mod_152 sk_116 rfl d_Mod_readFresh_87 rfl (Nat.le_of_ble_eq_true rfl) (by decide) (by decide) (c_Mod_nextX h41 b hI43 s sZ sE (kn_call fh41 (kn_call fh5 sK rfl) rfl) p pZ pE (kn_call fh41 (kn_call fh5 pK rfl) rfl) g gZ gE (kn_call fh41 (kn_call fh5 gK rfl) rfl) k kZ kE (kn_call fh41 (kn_call fh5 kK rfl) rfl) v vZ vE (kn_call fh41 (kn_call fh5 vK rfl) rfl) o45 o45Z o45E o45K o46 o46Z o46E o46K (TP_fr f44 (fun _ => rfl) hy0) (by (first | decide +kernel | omega))) (fun h50 p51 => ?_)
        obtain ⟨hI52, fh50, o54, o54Z, o54E, o54K, o55, o55Z, o55E, o55K, o56, o56Z, o56E, o56K, o57, o57Z, o57E, o57K, o58, o58Z, o58E, o58K, o59, o59Z, o59E, o59K, p51⟩ := p51
        have f53 : fr S_Mod_readFreshX_4 h h50 := fr_call f44 fh50 rfl
        have R60 : RM h50 T D := RM_fr fh50 rfl R47
        have g61 : 0 ≤ o54Z ∧ o54Z ≤ 160 := inv_at hI52 o54E o54K.symm rfl
        have g62 : 0 ≤ o55Z ∧ o55Z ≤ 160 := inv_at hI52 o55E o55K.symm rfl
        replace p51 := p51.resolve_right (fun q => by (first | decide +kernel | omega))
        refine V_iload_n 3 d_Mod_readFresh_90 rfl rfl ?_
        exact V_iret rfl d_Mod_readFresh_91 ⟨z4, rfl, ⟨hI52, f53, o54, o54Z, o54E, o54K, o55, o55Z, o55E, o55K, o56, o56Z, o56E, o56K, o57, o57Z, o57E, o57K, o58, o58Z, o58E, o58K, o59, o59Z, o59E, o59K, ⟨(Or.inr (Or.inl (⟨by (first | decide +kernel | omega), by (first | decide +kernel | omega), by (first | decide +kernel | omega), by (first | decide +kernel | omega)⟩))), by (first | decide +kernel | omega), by (first | decide +kernel | omega), by (first | decide +kernel | omega), by rw [z4E]; omega, by rw [z4E]; omega⟩⟩⟩
      ·
        exact absurd c48 (by (first | decide +kernel | omega))
    ·
      replace g38 := g38.resolve_right (fun q => by (first | decide +kernel | omega))
      refine V_iconst 1 d_Mod_readFresh_30 (by decide) ?_
      refine V_goto 35 d_Mod_readFresh_31 (by decide) ?_
      refine V_iconst 4 d_Mod_readFresh_35 (by decide) ?_
      refine N_callVV [.int 1, .int 4] [] cv_Mod_144 sk_116 rfl d_Mod_readFresh_36 rfl (Nat.le_of_ble_eq_true rfl) (by decide) (by decide) (c_Mod_needsX h5 hI7 1 1 tc_1 4 4 tc_4 g gZ gE (kn_call fh5 gK rfl) o9 o9Z o9E o9K o10 o10Z o10E o10K) (fun h64 p65 => ?_)
      obtain ⟨hI66, fh64, o68, o68Z, o68E, o68K, o69, o69Z, o69E, o69K, p65⟩ := p65
      have f67 : fr S_Mod_readFreshX_4 h h64 := fr_call f8 fh64 rfl
      have R70 : RM h64 T D := RM_fr fh64 rfl R11
      replace p65 := (p65.resolve_right (by (first | decide +kernel | omega))).2
      refine V_aload_n 0 d_Mod_readFresh_39 rfl rfl ?_
      refine N_getK fa_Mod_102 sk_116 rfl d_Mod_readFresh_40 o68K ?_
      refine V_if_ne 86 o68E d_Mod_readFresh_43 (by decide) (fun c71 => ?_) (fun c71 => ?_)
      ·
        exact absurd c71 (by (first | decide +kernel | omega))
      ·
        refine V_aload_n 0 d_Mod_readFresh_46 rfl rfl ?_
        refine V_getR fa_Mod_20 sk_116 rfl d_Mod_readFresh_47 ?_
        refine V_iload_n 1 d_Mod_readFresh_50 rfl rfl ?_
        refine V_iconst 4 d_Mod_readFresh_51 (by decide) ?_
        refine V_isubw d_Mod_readFresh_52 (fun z72 z72e => ?_)
        obtain rfl : z72 = 0 := z72e.trans (by decide)
        refine V_dup2 d_Mod_readFresh_53 rfl rfl ?_
        refine N_ialdK sk_120 tc_0 (by (first | decide +kernel | omega)) d_Mod_readFresh_54 (kn_call fh64 (kn_call fh5 zK rfl) rfl) ?_
        refine V_iconst 1 d_Mod_readFresh_55 (by decide) ?_
        refine V_iload_n 3 d_Mod_readFresh_56 rfl rfl ?_
        refine N_ishl d_Mod_readFresh_57 (fun z74 z74Z z74E z74e => ?_)
        refine N_ior d_Mod_readFresh_58 (fun z75 z75Z z75E z75e => ?_)
        refine N_iast sk_120 tc_0 (by (first | decide +kernel | omega)) d_Mod_readFresh_59 (fun h76 eh76 => ?_)
        have hI77 : Inv h76 := inv_full hI66 eh76 rfl
        have f78 : fr S_Mod_readFreshX_4 h h76 := fr_put f67 eh76 rfl
        refine V_aload_n 0 d_Mod_readFresh_60 rfl rfl ?_
        refine V_iload_n 1 d_Mod_readFresh_61 rfl rfl ?_
        refine V_bipush 8 d_Mod_readFresh_62 (by decide) ?_
        refine V_icmp_ge 79 tc_4 tc_8 d_Mod_readFresh_64 (by decide) (fun c80 => ?_) (fun c80 => ?_)
        ·
          exact absurd c80 (by decide)
        ·
          refine V_iload_n 3 d_Mod_readFresh_67 rfl rfl ?_
          refine V_aload_n 0 d_Mod_readFresh_68 rfl rfl ?_
          refine N_getK fa_Mod_78 sk_116 rfl d_Mod_readFresh_69 (kn_ne eh76 (kn_call fh64 (kn_call fh5 iK rfl) rfl) (by decide)) ?_
          refine V_icmp_le 79 z4E iE d_Mod_readFresh_72 (by decide) (fun c81 => ?_) (fun c81 => ?_)
          ·
            refine V_aload_n 0 d_Mod_readFresh_79 rfl rfl ?_
            refine N_getK fa_Mod_78 sk_116 rfl d_Mod_readFresh_80 (kn_ne eh76 (kn_call fh64 (kn_call fh5 iK rfl) rfl) (by decide)) ?_
            refine N_putI fp_Mod_78 sk_116 rfl d_Mod_readFresh_83 (fun h82 eh82 => ?_)
            have hI83 : Inv h82 := inv_full hI77 eh82 rfl
            have f84 : fr S_Mod_readFreshX_4 h h82 := fr_put f78 eh82 rfl
            have R85 : RM h82 (x_upT T 1 (x_vl b p0)) D := RM_fresh (l := 1) R70 ⟨by decide, by decide⟩ eh76 (kn_call fh64 (kn_call fh5 zK rfl) rfl) (by (first | decide +kernel | omega)) (z4E.trans (by (first | decide +kernel | omega))) (by assumption) (by assumption) rfl eh82 iE ((congrArg Int32.toInt (kn_call fh64 (kn_call fh5 iK rfl) rfl)).trans iE) (Or.inl ⟨by decide, by (first | decide +kernel | omega)⟩)
            refine V_aload_n 0 d_Mod_readFresh_86 rfl rfl ?_
            refine N_callVV [] [] cv_Mod_152 sk_116 rfl d_Mod_readFresh_87 rfl (Nat.le_of_ble_eq_true rfl) (by decide) (by decide) (c_Mod_nextX h82 b hI83 s sZ sE (kn_nei eh82 (kn_ne eh76 (kn_call fh64 (kn_call fh5 sK rfl) rfl) (by decide)) (by decide)) p pZ pE (kn_nei eh82 (kn_ne eh76 (kn_call fh64 (kn_call fh5 pK rfl) rfl) (by decide)) (by decide)) g gZ gE (kn_nei eh82 (kn_ne eh76 (kn_call fh64 (kn_call fh5 gK rfl) rfl) (by decide)) (by decide)) k kZ kE (kn_nei eh82 (kn_ne eh76 (kn_call fh64 (kn_call fh5 kK rfl) rfl) (by decide)) (by decide)) v vZ vE (kn_nei eh82 (kn_ne eh76 (kn_call fh64 (kn_call fh5 vK rfl) rfl) (by decide)) (by decide)) o68 o68Z o68E (kn_nei eh82 (kn_ne eh76 o68K (by decide)) (by decide)) o69 o69Z o69E (kn_nei eh82 (kn_ne eh76 o69K (by decide)) (by decide)) (TP_fr f84 (fun _ => rfl) hy0) (by (first | decide +kernel | omega))) (fun h87 p88 => ?_)
            obtain ⟨hI89, fh87, o91, o91Z, o91E, o91K, o92, o92Z, o92E, o92K, o93, o93Z, o93E, o93K, o94, o94Z, o94E, o94K, o95, o95Z, o95E, o95K, o96, o96Z, o96E, o96K, p88⟩ := p88
            have f90 : fr S_Mod_readFreshX_4 h h87 := fr_call f84 fh87 rfl
            have R97 : RM h87 (x_upT T 1 (x_vl b p0)) D := RM_fr fh87 rfl R85
            have g98 : 0 ≤ o91Z ∧ o91Z ≤ 160 := inv_at hI89 o91E o91K.symm rfl
            have g99 : 0 ≤ o92Z ∧ o92Z ≤ 160 := inv_at hI89 o92E o92K.symm rfl
            replace p88 := p88.resolve_left (fun q => by (first | decide +kernel | omega))
            refine V_iload_n 3 d_Mod_readFresh_90 rfl rfl ?_
            exact V_iret rfl d_Mod_readFresh_91 ⟨z4, rfl, ⟨hI89, f90, o91, o91Z, o91E, o91K, o92, o92Z, o92E, o92K, o93, o93Z, o93E, o93K, o94, o94Z, o94E, o94K, o95, o95Z, o95E, o95K, o96, o96Z, o96E, o96K, ⟨(Or.inr (Or.inr (⟨by (first | decide +kernel | omega), by (first | decide +kernel | omega), by rw [z4E]; omega, (if q9 : o95Z = 0 then Or.inr ⟨q9, by (first | decide +kernel | omega), by (first | decide +kernel | omega), by (first | decide +kernel | omega), by (first | decide +kernel | omega), by (first | decide +kernel | omega), by (first | decide +kernel | omega), by (first | decide +kernel | omega), by (first | decide +kernel | omega), by (first | decide +kernel | omega), by (first | decide +kernel | omega), by (first | decide +kernel | omega)⟩ else Or.inl ⟨by (first | decide +kernel | omega), by (first | decide +kernel | omega), by (first | decide +kernel | omega)⟩), R97⟩))), by (first | decide +kernel | omega), by (first | decide +kernel | omega), by (first | decide +kernel | omega), by rw [z4E]; omega, by rw [z4E]; omega⟩⟩⟩
          ·
            refine V_iload_n 3 d_Mod_readFresh_75 rfl rfl ?_
            refine V_goto 83 d_Mod_readFresh_76 (by decide) ?_
            refine N_putI fp_Mod_78 sk_116 rfl d_Mod_readFresh_83 (fun h100 eh100 => ?_)
            have hI101 : Inv h100 := inv_full hI77 eh100 rfl
            have f102 : fr S_Mod_readFreshX_4 h h100 := fr_put f78 eh100 rfl
            have R103 : RM h100 (x_upT T 1 (x_vl b p0)) D := RM_fresh (l := 1) R70 ⟨by decide, by decide⟩ eh76 (kn_call fh64 (kn_call fh5 zK rfl) rfl) (by (first | decide +kernel | omega)) (z4E.trans (by (first | decide +kernel | omega))) (by assumption) (by assumption) rfl eh100 z4E ((congrArg Int32.toInt (kn_call fh64 (kn_call fh5 iK rfl) rfl)).trans iE) (Or.inl ⟨by decide, by (first | decide +kernel | omega)⟩)
            refine V_aload_n 0 d_Mod_readFresh_86 rfl rfl ?_
            refine N_callVV [] [] cv_Mod_152 sk_116 rfl d_Mod_readFresh_87 rfl (Nat.le_of_ble_eq_true rfl) (by decide) (by decide) (c_Mod_nextX h100 b hI101 s sZ sE (kn_nei eh100 (kn_ne eh76 (kn_call fh64 (kn_call fh5 sK rfl) rfl) (by decide)) (by decide)) p pZ pE (kn_nei eh100 (kn_ne eh76 (kn_call fh64 (kn_call fh5 pK rfl) rfl) (by decide)) (by decide)) g gZ gE (kn_nei eh100 (kn_ne eh76 (kn_call fh64 (kn_call fh5 gK rfl) rfl) (by decide)) (by decide)) k kZ kE (kn_nei eh100 (kn_ne eh76 (kn_call fh64 (kn_call fh5 kK rfl) rfl) (by decide)) (by decide)) v vZ vE (kn_nei eh100 (kn_ne eh76 (kn_call fh64 (kn_call fh5 vK rfl) rfl) (by decide)) (by decide)) o68 o68Z o68E (kn_nei eh100 (kn_ne eh76 o68K (by decide)) (by decide)) o69 o69Z o69E (kn_nei eh100 (kn_ne eh76 o69K (by decide)) (by decide)) (TP_fr f102 (fun _ => rfl) hy0) (by (first | decide +kernel | omega))) (fun h105 p106 => ?_)
            obtain ⟨hI107, fh105, o109, o109Z, o109E, o109K, o110, o110Z, o110E, o110K, o111, o111Z, o111E, o111K, o112, o112Z, o112E, o112K, o113, o113Z, o113E, o113K, o114, o114Z, o114E, o114K, p106⟩ := p106
            have f108 : fr S_Mod_readFreshX_4 h h105 := fr_call f102 fh105 rfl
            have R115 : RM h105 (x_upT T 1 (x_vl b p0)) D := RM_fr fh105 rfl R103
            have g116 : 0 ≤ o109Z ∧ o109Z ≤ 160 := inv_at hI107 o109E o109K.symm rfl
            have g117 : 0 ≤ o110Z ∧ o110Z ≤ 160 := inv_at hI107 o110E o110K.symm rfl
            replace p106 := p106.resolve_left (fun q => by (first | decide +kernel | omega))
            refine V_iload_n 3 d_Mod_readFresh_90 rfl rfl ?_
            exact V_iret rfl d_Mod_readFresh_91 ⟨z4, rfl, ⟨hI107, f108, o109, o109Z, o109E, o109K, o110, o110Z, o110E, o110K, o111, o111Z, o111E, o111K, o112, o112Z, o112E, o112K, o113, o113Z, o113E, o113K, o114, o114Z, o114E, o114K, ⟨(Or.inr (Or.inr (⟨by (first | decide +kernel | omega), by (first | decide +kernel | omega), by rw [z4E]; omega, (if q9 : o113Z = 0 then Or.inr ⟨q9, by (first | decide +kernel | omega), by (first | decide +kernel | omega), by (first | decide +kernel | omega), by (first | decide +kernel | omega), by (first | decide +kernel | omega), by (first | decide +kernel | omega), by (first | decide +kernel | omega), by (first | decide +kernel | omega), by (first | decide +kernel | omega), by (first | decide +kernel | omega), by (first | decide +kernel | omega)⟩ else Or.inl ⟨by (first | decide +kernel | omega), by (first | decide +kernel | omega), by (first | decide +kernel | omega)⟩), R115⟩))), by (first | decide +kernel | omega), by (first | decide +kernel | omega), by (first | decide +kernel | omega), by rw [z4E]; omega, by rw [z4E]; omega⟩⟩⟩
def S_Mod_readFreshX_5 : List (Nat × Option Nat) := [(116, some 16), (116, some 17), (116, some 18), (116, some 19), (116, some 20), (116, some 21), (120, some 1), (116, some 13)]
abbrev q_Mod_readFreshX_5 (h : Hp) (b : Int → Int) (T : Nat → Int → Int) (D : Nat → Int) (p0 : Int) (s : Int32) (sZ : Int) (p : Int32) (pZ : Int) (g : Int32) (gZ : Int) (k : Int32) (kZ : Int) (v : Int32) (vZ : Int) (w : Int32) (wZ : Int) (a : Int32) (aZ : Int) (z : Int32) (zZ : Int) (i : Int32) (iZ : Int) : Option Value → Hp → Prop := pInt (fun r h' => Inv h' ∧ fr S_Mod_readFreshX_5 h h' ∧ ∃ (q : Int32) (qZ : Int), q.toInt = qZ ∧ h'.1 116 16 = q ∧ ∃ (f : Int32) (fZ : Int), f.toInt = fZ ∧ h'.1 116 17 = f ∧ ∃ (m : Int32) (mZ : Int), m.toInt = mZ ∧ h'.1 116 18 = m ∧ ∃ (x : Int32) (xZ : Int), x.toInt = xZ ∧ h'.1 116 19 = x ∧ ∃ (u : Int32) (uZ : Int), u.toInt = uZ ∧ h'.1 116 20 = u ∧ ∃ (y : Int32) (yZ : Int), y.toInt = yZ ∧ h'.1 116 21 = y ∧ ((x_cN b p0 0 15 ≠ 0 ∧ uZ = x_cN b p0 0 15 ∧ yZ = x_fr b p0 ∨ x_cN b p0 0 15 = 0 ∧ x_c4 (T 2 (x_vl b p0)) ≠ 0 ∧ uZ = 4 ∧ yZ = x_fr b p0 ∨ x_cN b p0 0 15 = 0 ∧ x_c4 (T 2 (x_vl b p0)) = 0 ∧ r.toInt = x_vl b p0 ∧ (uZ = 1 ∧ x_kd b (x_en b p0) = 4 ∧ yZ = x_fr b (x_en b p0) ∨ uZ = 0 ∧ fZ = x_fr b (x_en b p0) ∧ mZ = x_kd b (x_en b p0) ∧ mZ ≠ 4 ∧ 0 ≤ mZ ∧ mZ ≤ 3 ∧ qZ = x_en b (x_en b p0) ∧ (mZ ≠ 2 ∨ xZ = x_vl b (x_en b p0) ∧ 0 ≤ xZ ∧ xZ ≤ 99) ∧ (x_en b p0) ≤ fZ ∧ fZ ≤ qZ ∧ qZ ≤ sZ ∧ (mZ = 0 ∨ fZ < qZ)) ∧ RM h' (x_upT T 2 (x_vl b p0)) D) ∧ 0 ≤ qZ ∧ qZ ≤ sZ ∧ 0 ≤ uZ ∧ 0 ≤ r.toInt ∧ r.toInt ≤ 15))
set_option maxRecDepth 100000 in
theorem c_Mod_readFreshX_5 (h : Hp) (b : Int → Int) (T : Nat → Int → Int) (D : Nat → Int) (p0 : Int) (hI : Inv h) (s : Int32) (sZ : Int) (sE : s.toInt = sZ) (sK : h.1 116 15 = s) (p : Int32) (pZ : Int) (pE : p.toInt = pZ) (pK : h.1 116 16 = p) (g : Int32) (gZ : Int) (gE : g.toInt = gZ) (gK : h.1 116 17 = g) (k : Int32) (kZ : Int) (kE : k.toInt = kZ) (kK : h.1 116 18 = k) (v : Int32) (vZ : Int) (vE : v.toInt = vZ) (vK : h.1 116 19 = v) (w : Int32) (wZ : Int) (wE : w.toInt = wZ) (wK : h.1 116 20 = w) (a : Int32) (aZ : Int) (aE : a.toInt = aZ) (aK : h.1 116 21 = a) (z : Int32) (zZ : Int) (zE : z.toInt = zZ) (zK : h.1 120 1 = z) (i : Int32) (iZ : Int) (iE : i.toInt = iZ) (iK : h.1 116 13 = i) (hy0 : TP h 121 sZ b) (hy1 : 0 ≤ pZ ∧ pZ ≤ sZ ∧ wZ = 0) (hy2 : gZ = x_fr b p0 ∧ kZ = x_kd b p0 ∧ kZ ≠ 4 ∧ 0 ≤ kZ ∧ kZ ≤ 3 ∧ pZ = x_en b p0 ∧ (kZ ≠ 2 ∨ vZ = x_vl b p0 ∧ 0 ≤ vZ ∧ vZ ≤ 99) ∧ p0 ≤ gZ ∧ gZ ≤ pZ ∧ pZ ≤ sZ ∧ (kZ = 0 ∨ gZ < pZ)) (hy3 : RM h T D) : Ct y_Mod_readFresh b_Mod_readFresh 4 (some .int) 2 47 [.ref 116, .int 5, .int 15] h (q_Mod_readFreshX_5 h b T D p0 s sZ p pZ g gZ k kZ v vZ w wZ a aZ z zZ i iZ) := by
  refine ct_ow R_Mod [some (.ref 116), some (.int 5), some (.int 15), none] rfl (by decide) rfl (Nat.le_of_ble_eq_true rfl) ?_
  have f0 : fr S_Mod_readFreshX_5 h h := fr_rf
  have g1 : 0 ≤ sZ ∧ sZ ≤ 160 := inv_at hI sE sK.symm rfl
  have g2 : 0 ≤ pZ ∧ pZ ≤ 160 := inv_at hI pE pK.symm rfl
  have g3 : 0 ≤ gZ ∧ gZ ≤ 160 := inv_at hI gE gK.symm rfl
  refine V_aload_n 0 d_Mod_readFresh_0 rfl rfl ?_
  refine V_iconst 0 d_Mod_readFresh_1 (by decide) ?_
  refine V_iload_n 2 d_Mod_readFresh_2 rfl rfl ?_
  refine N_callVI [.int 0, .int 15] [] cv_Mod_148 sk_116 rfl d_Mod_readFresh_3 rfl (Nat.le_of_ble_eq_true rfl) (by decide) (by decide) (c_Mod_lookedX h hI 0 0 tc_0 15 15 tc_15 g gZ gE gK k kZ kE kK v vZ vE vK w wZ wE wK a aZ aE aK) (fun z4 h5 z4Z z4E p6 => ?_)
  obtain ⟨hI7, fh5, o9, o9Z, o9E, o9K, o10, o10Z, o10E, o10K, p6⟩ := p6
  have f8 : fr S_Mod_readFreshX_5 h h5 := fr_call f0 fh5 rfl
  have R11 : RM h5 T D := RM_fr fh5 rfl hy3
  refine V_istore_n 3 [some (.ref 116), some (.int 5), some (.int 15), some (.int z4)] d_Mod_readFresh_6 rfl (by decide) rfl rfl ?_
  replace p6 := lk_all hy2 hy1.2.2 p6
  replace hy2 := lx_s hy2
  have g12 : x_fr b pZ = x_fr b (x_en b p0) := congrArg (x_fr b) (by (first | decide +kernel | omega))
  have g13 : x_kd b pZ = x_kd b (x_en b p0) := congrArg (x_kd b) (by (first | decide +kernel | omega))
  have g14 : x_en b pZ = x_en b (x_en b p0) := congrArg (x_en b) (by (first | decide +kernel | omega))
  have g15 : x_vl b pZ = x_vl b (x_en b p0) := congrArg (x_vl b) (by (first | decide +kernel | omega))
  refine V_aload_n 0 d_Mod_readFresh_7 rfl rfl ?_
  refine N_getK fa_Mod_102 sk_116 rfl d_Mod_readFresh_8 o9K ?_
  refine V_if_ne 39 o9E d_Mod_readFresh_11 (by decide) (fun c16 => ?_) (fun c16 => ?_)
  ·
    replace p6 := And.intro p6.1 (p6.2.resolve_right (fun q => by (first | decide +kernel | omega)))
    refine V_aload_n 0 d_Mod_readFresh_39 rfl rfl ?_
    refine N_getK fa_Mod_102 sk_116 rfl d_Mod_readFresh_40 o9K ?_
    refine V_if_ne 86 o9E d_Mod_readFresh_43 (by decide) (fun c17 => ?_) (fun c17 => ?_)
    ·
      refine V_aload_n 0 d_Mod_readFresh_86 rfl rfl ?_
      refine N_callVV [] [] cv_Mod_152 sk_116 rfl d_Mod_readFresh_87 rfl (Nat.le_of_ble_eq_true rfl) (by decide) (by decide) (c_Mod_nextX h5 b hI7 s sZ sE (kn_call fh5 sK rfl) p pZ pE (kn_call fh5 pK rfl) g gZ gE (kn_call fh5 gK rfl) k kZ kE (kn_call fh5 kK rfl) v vZ vE (kn_call fh5 vK rfl) o9 o9Z o9E o9K o10 o10Z o10E o10K (TP_fr f8 (fun _ => rfl) hy0) (by (first | decide +kernel | omega))) (fun h19 p20 => ?_)
      obtain ⟨hI21, fh19, o23, o23Z, o23E, o23K, o24, o24Z, o24E, o24K, o25, o25Z, o25E, o25K, o26, o26Z, o26E, o26K, o27, o27Z, o27E, o27K, o28, o28Z, o28E, o28K, p20⟩ := p20
      have f22 : fr S_Mod_readFreshX_5 h h19 := fr_call f8 fh19 rfl
      have R29 : RM h19 T D := RM_fr fh19 rfl R11
      have g30 : 0 ≤ o23Z ∧ o23Z ≤ 160 := inv_at hI21 o23E o23K.symm rfl
      have g31 : 0 ≤ o24Z ∧ o24Z ≤ 160 := inv_at hI21 o24E o24K.symm rfl
      replace p20 := p20.resolve_right (fun q => by (first | decide +kernel | omega))
      refine V_iload_n 3 d_Mod_readFresh_90 rfl rfl ?_
      exact V_iret rfl d_Mod_readFresh_91 ⟨z4, rfl, ⟨hI21, f22, o23, o23Z, o23E, o23K, o24, o24Z, o24E, o24K, o25, o25Z, o25E, o25K, o26, o26Z, o26E, o26K, o27, o27Z, o27E, o27K, o28, o28Z, o28E, o28K, ⟨(Or.inl (⟨by (first | decide +kernel | omega), by (first | decide +kernel | omega), by (first | decide +kernel | omega)⟩)), by (first | decide +kernel | omega), by (first | decide +kernel | omega), by (first | decide +kernel | omega), by rw [z4E]; omega, by rw [z4E]; omega⟩⟩⟩
    ·
      exact absurd c17 (by (first | decide +kernel | omega))
  ·
    replace p6 := And.intro p6.1 (p6.2.resolve_left (fun q => by (first | decide +kernel | omega)))
    refine V_aload_n 0 d_Mod_readFresh_14 rfl rfl ?_
    refine V_aload_n 0 d_Mod_readFresh_15 rfl rfl ?_
    refine V_getR fa_Mod_20 sk_116 rfl d_Mod_readFresh_16 ?_
    refine V_iload_n 1 d_Mod_readFresh_19 rfl rfl ?_
    refine V_iconst 4 d_Mod_readFresh_20 (by decide) ?_
    refine V_isubw d_Mod_readFresh_21 (fun z32 z32e => ?_)
    obtain rfl : z32 = 1 := z32e.trans (by decide)
    refine N_ialdK sk_120 tc_1 (by (first | decide +kernel | omega)) d_Mod_readFresh_22 (kn_call fh5 zK rfl) ?_
    refine V_iload_n 3 d_Mod_readFresh_23 rfl rfl ?_
    refine N_ishr d_Mod_readFresh_24 (fun z34 z34Z z34E z34e => ?_)
    refine V_iconst 1 d_Mod_readFresh_25 (by decide) ?_
    refine N_iand d_Mod_readFresh_26 (fun z35 z35Z z35E z35e => ?_)
    have g36 : z35Z = T 2 z4Z := x_bt_of (RM_had R11 (by decide) (by decide) (kn_call fh5 zK rfl)) (by (first | decide +kernel | omega)) (by (first | decide +kernel | omega)) z4E z35E (by assumption) (by assumption)
    have g37 : T 2 z4Z = T 2 (x_vl b p0) := congrArg (T 2) (by (first | decide +kernel | omega))
    have g38 := x_c4_s (T 2 (x_vl b p0))
    refine V_if_ne 34 z35E d_Mod_readFresh_27 (by decide) (fun c39 => ?_) (fun c39 => ?_)
    ·
      replace g38 := g38.resolve_left (fun q => by (first | decide +kernel | omega))
      refine V_iconst 0 d_Mod_readFresh_34 (by decide) ?_
      refine V_iconst 4 d_Mod_readFresh_35 (by decide) ?_
      refine N_callVV [.int 0, .int 4] [] cv_Mod_144 sk_116 rfl d_Mod_readFresh_36 rfl (Nat.le_of_ble_eq_true rfl) (by decide) (by decide) (c_Mod_needsX h5 hI7 0 0 tc_0 4 4 tc_4 g gZ gE (kn_call fh5 gK rfl) o9 o9Z o9E o9K o10 o10Z o10E o10K) (fun h41 p42 => ?_)
      obtain ⟨hI43, fh41, o45, o45Z, o45E, o45K, o46, o46Z, o46E, o46K, p42⟩ := p42
      have f44 : fr S_Mod_readFreshX_5 h h41 := fr_call f8 fh41 rfl
      have R47 : RM h41 T D := RM_fr fh41 rfl R11
      replace p42 := (p42.resolve_left (by (first | decide +kernel | omega))).2.2
      refine V_aload_n 0 d_Mod_readFresh_39 rfl rfl ?_
      refine N_getK fa_Mod_102 sk_116 rfl d_Mod_readFresh_40 o45K ?_
      refine V_if_ne 86 o45E d_Mod_readFresh_43 (by decide) (fun c48 => ?_) (fun c48 => ?_)
      ·
        refine V_aload_n 0 d_Mod_readFresh_86 rfl rfl ?_
        refine N_callVV [] [] cv_Mod_152 sk_116 rfl d_Mod_readFresh_87 rfl (Nat.le_of_ble_eq_true rfl) (by decide) (by decide) (c_Mod_nextX h41 b hI43 s sZ sE (kn_call fh41 (kn_call fh5 sK rfl) rfl) p pZ pE (kn_call fh41 (kn_call fh5 pK rfl) rfl) g gZ gE (kn_call fh41 (kn_call fh5 gK rfl) rfl) k kZ kE (kn_call fh41 (kn_call fh5 kK rfl) rfl) v vZ vE (kn_call fh41 (kn_call fh5 vK rfl) rfl) o45 o45Z o45E o45K o46 o46Z o46E o46K (TP_fr f44 (fun _ => rfl) hy0) (by (first | decide +kernel | omega))) (fun h50 p51 => ?_)
        obtain ⟨hI52, fh50, o54, o54Z, o54E, o54K, o55, o55Z, o55E, o55K, o56, o56Z, o56E, o56K, o57, o57Z, o57E, o57K, o58, o58Z, o58E, o58K, o59, o59Z, o59E, o59K, p51⟩ := p51
        have f53 : fr S_Mod_readFreshX_5 h h50 := fr_call f44 fh50 rfl
        have R60 : RM h50 T D := RM_fr fh50 rfl R47
        have g61 : 0 ≤ o54Z ∧ o54Z ≤ 160 := inv_at hI52 o54E o54K.symm rfl
        have g62 : 0 ≤ o55Z ∧ o55Z ≤ 160 := inv_at hI52 o55E o55K.symm rfl
        replace p51 := p51.resolve_right (fun q => by (first | decide +kernel | omega))
        refine V_iload_n 3 d_Mod_readFresh_90 rfl rfl ?_
        exact V_iret rfl d_Mod_readFresh_91 ⟨z4, rfl, ⟨hI52, f53, o54, o54Z, o54E, o54K, o55, o55Z, o55E, o55K, o56, o56Z, o56E, o56K, o57, o57Z, o57E, o57K, o58, o58Z, o58E, o58K, o59, o59Z, o59E, o59K, ⟨(Or.inr (Or.inl (⟨by (first | decide +kernel | omega), by (first | decide +kernel | omega), by (first | decide +kernel | omega), by (first | decide +kernel | omega)⟩))), by (first | decide +kernel | omega), by (first | decide +kernel | omega), by (first | decide +kernel | omega), by rw [z4E]; omega, by rw [z4E]; omega⟩⟩⟩
      ·
        exact absurd c48 (by (first | decide +kernel | omega))
    ·
      replace g38 := g38.resolve_right (fun q => by (first | decide +kernel | omega))
      refine V_iconst 1 d_Mod_readFresh_30 (by decide) ?_
      refine V_goto 35 d_Mod_readFresh_31 (by decide) ?_
      refine V_iconst 4 d_Mod_readFresh_35 (by decide) ?_
      refine N_callVV [.int 1, .int 4] [] cv_Mod_144 sk_116 rfl d_Mod_readFresh_36 rfl (Nat.le_of_ble_eq_true rfl) (by decide) (by decide) (c_Mod_needsX h5 hI7 1 1 tc_1 4 4 tc_4 g gZ gE (kn_call fh5 gK rfl) o9 o9Z o9E o9K o10 o10Z o10E o10K) (fun h64 p65 => ?_)
      obtain ⟨hI66, fh64, o68, o68Z, o68E, o68K, o69, o69Z, o69E, o69K, p65⟩ := p65
      have f67 : fr S_Mod_readFreshX_5 h h64 := fr_call f8 fh64 rfl
      have R70 : RM h64 T D := RM_fr fh64 rfl R11
      replace p65 := (p65.resolve_right (by (first | decide +kernel | omega))).2
      refine V_aload_n 0 d_Mod_readFresh_39 rfl rfl ?_
      refine N_getK fa_Mod_102 sk_116 rfl d_Mod_readFresh_40 o68K ?_
      refine V_if_ne 86 o68E d_Mod_readFresh_43 (by decide) (fun c71 => ?_) (fun c71 => ?_)
      ·
        exact absurd c71 (by (first | decide +kernel | omega))
      ·
        refine V_aload_n 0 d_Mod_readFresh_46 rfl rfl ?_
        refine V_getR fa_Mod_20 sk_116 rfl d_Mod_readFresh_47 ?_
        refine V_iload_n 1 d_Mod_readFresh_50 rfl rfl ?_
        refine V_iconst 4 d_Mod_readFresh_51 (by decide) ?_
        refine V_isubw d_Mod_readFresh_52 (fun z72 z72e => ?_)
        obtain rfl : z72 = 1 := z72e.trans (by decide)
        refine V_dup2 d_Mod_readFresh_53 rfl rfl ?_
        refine N_ialdK sk_120 tc_1 (by (first | decide +kernel | omega)) d_Mod_readFresh_54 (kn_call fh64 (kn_call fh5 zK rfl) rfl) ?_
        refine V_iconst 1 d_Mod_readFresh_55 (by decide) ?_
        refine V_iload_n 3 d_Mod_readFresh_56 rfl rfl ?_
        refine N_ishl d_Mod_readFresh_57 (fun z74 z74Z z74E z74e => ?_)
        refine N_ior d_Mod_readFresh_58 (fun z75 z75Z z75E z75e => ?_)
        refine N_iast sk_120 tc_1 (by (first | decide +kernel | omega)) d_Mod_readFresh_59 (fun h76 eh76 => ?_)
        have hI77 : Inv h76 := inv_full hI66 eh76 rfl
        have f78 : fr S_Mod_readFreshX_5 h h76 := fr_put f67 eh76 rfl
        refine V_aload_n 0 d_Mod_readFresh_60 rfl rfl ?_
        refine V_iload_n 1 d_Mod_readFresh_61 rfl rfl ?_
        refine V_bipush 8 d_Mod_readFresh_62 (by decide) ?_
        refine V_icmp_ge 79 tc_5 tc_8 d_Mod_readFresh_64 (by decide) (fun c80 => ?_) (fun c80 => ?_)
        ·
          exact absurd c80 (by decide)
        ·
          refine V_iload_n 3 d_Mod_readFresh_67 rfl rfl ?_
          refine V_aload_n 0 d_Mod_readFresh_68 rfl rfl ?_
          refine N_getK fa_Mod_78 sk_116 rfl d_Mod_readFresh_69 (kn_ne eh76 (kn_call fh64 (kn_call fh5 iK rfl) rfl) (by decide)) ?_
          refine V_icmp_le 79 z4E iE d_Mod_readFresh_72 (by decide) (fun c81 => ?_) (fun c81 => ?_)
          ·
            refine V_aload_n 0 d_Mod_readFresh_79 rfl rfl ?_
            refine N_getK fa_Mod_78 sk_116 rfl d_Mod_readFresh_80 (kn_ne eh76 (kn_call fh64 (kn_call fh5 iK rfl) rfl) (by decide)) ?_
            refine N_putI fp_Mod_78 sk_116 rfl d_Mod_readFresh_83 (fun h82 eh82 => ?_)
            have hI83 : Inv h82 := inv_full hI77 eh82 rfl
            have f84 : fr S_Mod_readFreshX_5 h h82 := fr_put f78 eh82 rfl
            have R85 : RM h82 (x_upT T 2 (x_vl b p0)) D := RM_fresh (l := 2) R70 ⟨by decide, by decide⟩ eh76 (kn_call fh64 (kn_call fh5 zK rfl) rfl) (by (first | decide +kernel | omega)) (z4E.trans (by (first | decide +kernel | omega))) (by assumption) (by assumption) rfl eh82 iE ((congrArg Int32.toInt (kn_call fh64 (kn_call fh5 iK rfl) rfl)).trans iE) (Or.inl ⟨by decide, by (first | decide +kernel | omega)⟩)
            refine V_aload_n 0 d_Mod_readFresh_86 rfl rfl ?_
            refine N_callVV [] [] cv_Mod_152 sk_116 rfl d_Mod_readFresh_87 rfl (Nat.le_of_ble_eq_true rfl) (by decide) (by decide) (c_Mod_nextX h82 b hI83 s sZ sE (kn_nei eh82 (kn_ne eh76 (kn_call fh64 (kn_call fh5 sK rfl) rfl) (by decide)) (by decide)) p pZ pE (kn_nei eh82 (kn_ne eh76 (kn_call fh64 (kn_call fh5 pK rfl) rfl) (by decide)) (by decide)) g gZ gE (kn_nei eh82 (kn_ne eh76 (kn_call fh64 (kn_call fh5 gK rfl) rfl) (by decide)) (by decide)) k kZ kE (kn_nei eh82 (kn_ne eh76 (kn_call fh64 (kn_call fh5 kK rfl) rfl) (by decide)) (by decide)) v vZ vE (kn_nei eh82 (kn_ne eh76 (kn_call fh64 (kn_call fh5 vK rfl) rfl) (by decide)) (by decide)) o68 o68Z o68E (kn_nei eh82 (kn_ne eh76 o68K (by decide)) (by decide)) o69 o69Z o69E (kn_nei eh82 (kn_ne eh76 o69K (by decide)) (by decide)) (TP_fr f84 (fun _ => rfl) hy0) (by (first | decide +kernel | omega))) (fun h87 p88 => ?_)
            obtain ⟨hI89, fh87, o91, o91Z, o91E, o91K, o92, o92Z, o92E, o92K, o93, o93Z, o93E, o93K, o94, o94Z, o94E, o94K, o95, o95Z, o95E, o95K, o96, o96Z, o96E, o96K, p88⟩ := p88
            have f90 : fr S_Mod_readFreshX_5 h h87 := fr_call f84 fh87 rfl
            have R97 : RM h87 (x_upT T 2 (x_vl b p0)) D := RM_fr fh87 rfl R85
            have g98 : 0 ≤ o91Z ∧ o91Z ≤ 160 := inv_at hI89 o91E o91K.symm rfl
            have g99 : 0 ≤ o92Z ∧ o92Z ≤ 160 := inv_at hI89 o92E o92K.symm rfl
            replace p88 := p88.resolve_left (fun q => by (first | decide +kernel | omega))
            refine V_iload_n 3 d_Mod_readFresh_90 rfl rfl ?_
            exact V_iret rfl d_Mod_readFresh_91 ⟨z4, rfl, ⟨hI89, f90, o91, o91Z, o91E, o91K, o92, o92Z, o92E, o92K, o93, o93Z, o93E, o93K, o94, o94Z, o94E, o94K, o95, o95Z, o95E, o95K, o96, o96Z, o96E, o96K, ⟨(Or.inr (Or.inr (⟨by (first | decide +kernel | omega), by (first | decide +kernel | omega), by rw [z4E]; omega, (if q9 : o95Z = 0 then Or.inr ⟨q9, by (first | decide +kernel | omega), by (first | decide +kernel | omega), by (first | decide +kernel | omega), by (first | decide +kernel | omega), by (first | decide +kernel | omega), by (first | decide +kernel | omega), by (first | decide +kernel | omega), by (first | decide +kernel | omega), by (first | decide +kernel | omega), by (first | decide +kernel | omega), by (first | decide +kernel | omega)⟩ else Or.inl ⟨by (first | decide +kernel | omega), by (first | decide +kernel | omega), by (first | decide +kernel | omega)⟩), R97⟩))), by (first | decide +kernel | omega), by (first | decide +kernel | omega), by (first | decide +kernel | omega), by rw [z4E]; omega, by rw [z4E]; omega⟩⟩⟩
          ·
            refine V_iload_n 3 d_Mod_readFresh_75 rfl rfl ?_
            refine V_goto 83 d_Mod_readFresh_76 (by decide) ?_
            refine N_putI fp_Mod_78 sk_116 rfl d_Mod_readFresh_83 (fun h100 eh100 => ?_)
            have hI101 : Inv h100 := inv_full hI77 eh100 rfl
            have f102 : fr S_Mod_readFreshX_5 h h100 := fr_put f78 eh100 rfl
            have R103 : RM h100 (x_upT T 2 (x_vl b p0)) D := RM_fresh (l := 2) R70 ⟨by decide, by decide⟩ eh76 (kn_call fh64 (kn_call fh5 zK rfl) rfl) (by (first | decide +kernel | omega)) (z4E.trans (by (first | decide +kernel | omega))) (by assumption) (by assumption) rfl eh100 z4E ((congrArg Int32.toInt (kn_call fh64 (kn_call fh5 iK rfl) rfl)).trans iE) (Or.inl ⟨by decide, by (first | decide +kernel | omega)⟩)
            refine V_aload_n 0 d_Mod_readFresh_86 rfl rfl ?_
            refine N_callVV [] [] cv_Mod_152 sk_116 rfl d_Mod_readFresh_87 rfl (Nat.le_of_ble_eq_true rfl) (by decide) (by decide) (c_Mod_nextX h100 b hI101 s sZ sE (kn_nei eh100 (kn_ne eh76 (kn_call fh64 (kn_call fh5 sK rfl) rfl) (by decide)) (by decide)) p pZ pE (kn_nei eh100 (kn_ne eh76 (kn_call fh64 (kn_call fh5 pK rfl) rfl) (by decide)) (by decide)) g gZ gE (kn_nei eh100 (kn_ne eh76 (kn_call fh64 (kn_call fh5 gK rfl) rfl) (by decide)) (by decide)) k kZ kE (kn_nei eh100 (kn_ne eh76 (kn_call fh64 (kn_call fh5 kK rfl) rfl) (by decide)) (by decide)) v vZ vE (kn_nei eh100 (kn_ne eh76 (kn_call fh64 (kn_call fh5 vK rfl) rfl) (by decide)) (by decide)) o68 o68Z o68E (kn_nei eh100 (kn_ne eh76 o68K (by decide)) (by decide)) o69 o69Z o69E (kn_nei eh100 (kn_ne eh76 o69K (by decide)) (by decide)) (TP_fr f102 (fun _ => rfl) hy0) (by (first | decide +kernel | omega))) (fun h105 p106 => ?_)
            obtain ⟨hI107, fh105, o109, o109Z, o109E, o109K, o110, o110Z, o110E, o110K, o111, o111Z, o111E, o111K, o112, o112Z, o112E, o112K, o113, o113Z, o113E, o113K, o114, o114Z, o114E, o114K, p106⟩ := p106
            have f108 : fr S_Mod_readFreshX_5 h h105 := fr_call f102 fh105 rfl
            have R115 : RM h105 (x_upT T 2 (x_vl b p0)) D := RM_fr fh105 rfl R103
            have g116 : 0 ≤ o109Z ∧ o109Z ≤ 160 := inv_at hI107 o109E o109K.symm rfl
            have g117 : 0 ≤ o110Z ∧ o110Z ≤ 160 := inv_at hI107 o110E o110K.symm rfl
            replace p106 := p106.resolve_left (fun q => by (first | decide +kernel | omega))
            refine V_iload_n 3 d_Mod_readFresh_90 rfl rfl ?_
            exact V_iret rfl d_Mod_readFresh_91 ⟨z4, rfl, ⟨hI107, f108, o109, o109Z, o109E, o109K, o110, o110Z, o110E, o110K, o111, o111Z, o111E, o111K, o112, o112Z, o112E, o112K, o113, o113Z, o113E, o113K, o114, o114Z, o114E, o114K, ⟨(Or.inr (Or.inr (⟨by (first | decide +kernel | omega), by (first | decide +kernel | omega), by rw [z4E]; omega, (if q9 : o113Z = 0 then Or.inr ⟨q9, by (first | decide +kernel | omega), by (first | decide +kernel | omega), by (first | decide +kernel | omega), by (first | decide +kernel | omega), by (first | decide +kernel | omega), by (first | decide +kernel | omega), by (first | decide +kernel | omega), by (first | decide +kernel | omega), by (first | decide +kernel | omega), by (first | decide +kernel | omega), by (first | decide +kernel | omega)⟩ else Or.inl ⟨by (first | decide +kernel | omega), by (first | decide +kernel | omega), by (first | decide +kernel | omega)⟩), R115⟩))), by (first | decide +kernel | omega), by (first | decide +kernel | omega), by (first | decide +kernel | omega), by rw [z4E]; omega, by rw [z4E]; omega⟩⟩⟩
def S_Mod_readFreshX_6 : List (Nat × Option Nat) := [(116, some 16), (116, some 17), (116, some 18), (116, some 19), (116, some 20), (116, some 21), (120, some 2), (116, some 13)]
abbrev q_Mod_readFreshX_6 (h : Hp) (b : Int → Int) (T : Nat → Int → Int) (D : Nat → Int) (p0 : Int) (s : Int32) (sZ : Int) (p : Int32) (pZ : Int) (g : Int32) (gZ : Int) (k : Int32) (kZ : Int) (v : Int32) (vZ : Int) (w : Int32) (wZ : Int) (a : Int32) (aZ : Int) (z : Int32) (zZ : Int) (i : Int32) (iZ : Int) : Option Value → Hp → Prop := pInt (fun r h' => Inv h' ∧ fr S_Mod_readFreshX_6 h h' ∧ ∃ (q : Int32) (qZ : Int), q.toInt = qZ ∧ h'.1 116 16 = q ∧ ∃ (f : Int32) (fZ : Int), f.toInt = fZ ∧ h'.1 116 17 = f ∧ ∃ (m : Int32) (mZ : Int), m.toInt = mZ ∧ h'.1 116 18 = m ∧ ∃ (x : Int32) (xZ : Int), x.toInt = xZ ∧ h'.1 116 19 = x ∧ ∃ (u : Int32) (uZ : Int), u.toInt = uZ ∧ h'.1 116 20 = u ∧ ∃ (y : Int32) (yZ : Int), y.toInt = yZ ∧ h'.1 116 21 = y ∧ ((x_cN b p0 0 15 ≠ 0 ∧ uZ = x_cN b p0 0 15 ∧ yZ = x_fr b p0 ∨ x_cN b p0 0 15 = 0 ∧ x_c4 (T 3 (x_vl b p0)) ≠ 0 ∧ uZ = 4 ∧ yZ = x_fr b p0 ∨ x_cN b p0 0 15 = 0 ∧ x_c4 (T 3 (x_vl b p0)) = 0 ∧ r.toInt = x_vl b p0 ∧ (uZ = 1 ∧ x_kd b (x_en b p0) = 4 ∧ yZ = x_fr b (x_en b p0) ∨ uZ = 0 ∧ fZ = x_fr b (x_en b p0) ∧ mZ = x_kd b (x_en b p0) ∧ mZ ≠ 4 ∧ 0 ≤ mZ ∧ mZ ≤ 3 ∧ qZ = x_en b (x_en b p0) ∧ (mZ ≠ 2 ∨ xZ = x_vl b (x_en b p0) ∧ 0 ≤ xZ ∧ xZ ≤ 99) ∧ (x_en b p0) ≤ fZ ∧ fZ ≤ qZ ∧ qZ ≤ sZ ∧ (mZ = 0 ∨ fZ < qZ)) ∧ RM h' (x_upT T 3 (x_vl b p0)) D) ∧ 0 ≤ qZ ∧ qZ ≤ sZ ∧ 0 ≤ uZ ∧ 0 ≤ r.toInt ∧ r.toInt ≤ 15))
set_option maxRecDepth 100000 in
theorem c_Mod_readFreshX_6 (h : Hp) (b : Int → Int) (T : Nat → Int → Int) (D : Nat → Int) (p0 : Int) (hI : Inv h) (s : Int32) (sZ : Int) (sE : s.toInt = sZ) (sK : h.1 116 15 = s) (p : Int32) (pZ : Int) (pE : p.toInt = pZ) (pK : h.1 116 16 = p) (g : Int32) (gZ : Int) (gE : g.toInt = gZ) (gK : h.1 116 17 = g) (k : Int32) (kZ : Int) (kE : k.toInt = kZ) (kK : h.1 116 18 = k) (v : Int32) (vZ : Int) (vE : v.toInt = vZ) (vK : h.1 116 19 = v) (w : Int32) (wZ : Int) (wE : w.toInt = wZ) (wK : h.1 116 20 = w) (a : Int32) (aZ : Int) (aE : a.toInt = aZ) (aK : h.1 116 21 = a) (z : Int32) (zZ : Int) (zE : z.toInt = zZ) (zK : h.1 120 2 = z) (i : Int32) (iZ : Int) (iE : i.toInt = iZ) (iK : h.1 116 13 = i) (hy0 : TP h 121 sZ b) (hy1 : 0 ≤ pZ ∧ pZ ≤ sZ ∧ wZ = 0) (hy2 : gZ = x_fr b p0 ∧ kZ = x_kd b p0 ∧ kZ ≠ 4 ∧ 0 ≤ kZ ∧ kZ ≤ 3 ∧ pZ = x_en b p0 ∧ (kZ ≠ 2 ∨ vZ = x_vl b p0 ∧ 0 ≤ vZ ∧ vZ ≤ 99) ∧ p0 ≤ gZ ∧ gZ ≤ pZ ∧ pZ ≤ sZ ∧ (kZ = 0 ∨ gZ < pZ)) (hy3 : RM h T D) : Ct y_Mod_readFresh b_Mod_readFresh 4 (some .int) 2 47 [.ref 116, .int 6, .int 15] h (q_Mod_readFreshX_6 h b T D p0 s sZ p pZ g gZ k kZ v vZ w wZ a aZ z zZ i iZ) := by
  refine ct_ow R_Mod [some (.ref 116), some (.int 6), some (.int 15), none] rfl (by decide) rfl (Nat.le_of_ble_eq_true rfl) ?_
  have f0 : fr S_Mod_readFreshX_6 h h := fr_rf
  have g1 : 0 ≤ sZ ∧ sZ ≤ 160 := inv_at hI sE sK.symm rfl
  have g2 : 0 ≤ pZ ∧ pZ ≤ 160 := inv_at hI pE pK.symm rfl
  have g3 : 0 ≤ gZ ∧ gZ ≤ 160 := inv_at hI gE gK.symm rfl
  refine V_aload_n 0 d_Mod_readFresh_0 rfl rfl ?_
  refine V_iconst 0 d_Mod_readFresh_1 (by decide) ?_
  refine V_iload_n 2 d_Mod_readFresh_2 rfl rfl ?_
  refine N_callVI [.int 0, .int 15] [] cv_Mod_148 sk_116 rfl d_Mod_readFresh_3 rfl (Nat.le_of_ble_eq_true rfl) (by decide) (by decide) (c_Mod_lookedX h hI 0 0 tc_0 15 15 tc_15 g gZ gE gK k kZ kE kK v vZ vE vK w wZ wE wK a aZ aE aK) (fun z4 h5 z4Z z4E p6 => ?_)
  obtain ⟨hI7, fh5, o9, o9Z, o9E, o9K, o10, o10Z, o10E, o10K, p6⟩ := p6
  have f8 : fr S_Mod_readFreshX_6 h h5 := fr_call f0 fh5 rfl
  have R11 : RM h5 T D := RM_fr fh5 rfl hy3
  refine V_istore_n 3 [some (.ref 116), some (.int 6), some (.int 15), some (.int z4)] d_Mod_readFresh_6 rfl (by decide) rfl rfl ?_
  replace p6 := lk_all hy2 hy1.2.2 p6
  replace hy2 := lx_s hy2
  have g12 : x_fr b pZ = x_fr b (x_en b p0) := congrArg (x_fr b) (by (first | decide +kernel | omega))
  have g13 : x_kd b pZ = x_kd b (x_en b p0) := congrArg (x_kd b) (by (first | decide +kernel | omega))
  have g14 : x_en b pZ = x_en b (x_en b p0) := congrArg (x_en b) (by (first | decide +kernel | omega))
  have g15 : x_vl b pZ = x_vl b (x_en b p0) := congrArg (x_vl b) (by (first | decide +kernel | omega))
  refine V_aload_n 0 d_Mod_readFresh_7 rfl rfl ?_
  refine N_getK fa_Mod_102 sk_116 rfl d_Mod_readFresh_8 o9K ?_
  refine V_if_ne 39 o9E d_Mod_readFresh_11 (by decide) (fun c16 => ?_) (fun c16 => ?_)
  ·
    replace p6 := And.intro p6.1 (p6.2.resolve_right (fun q => by (first | decide +kernel | omega)))
    refine V_aload_n 0 d_Mod_readFresh_39 rfl rfl ?_
    refine N_getK fa_Mod_102 sk_116 rfl d_Mod_readFresh_40 o9K ?_
    refine V_if_ne 86 o9E d_Mod_readFresh_43 (by decide) (fun c17 => ?_) (fun c17 => ?_)
    ·
      refine V_aload_n 0 d_Mod_readFresh_86 rfl rfl ?_
      refine N_callVV [] [] cv_Mod_152 sk_116 rfl d_Mod_readFresh_87 rfl (Nat.le_of_ble_eq_true rfl) (by decide) (by decide) (c_Mod_nextX h5 b hI7 s sZ sE (kn_call fh5 sK rfl) p pZ pE (kn_call fh5 pK rfl) g gZ gE (kn_call fh5 gK rfl) k kZ kE (kn_call fh5 kK rfl) v vZ vE (kn_call fh5 vK rfl) o9 o9Z o9E o9K o10 o10Z o10E o10K (TP_fr f8 (fun _ => rfl) hy0) (by (first | decide +kernel | omega))) (fun h19 p20 => ?_)
      obtain ⟨hI21, fh19, o23, o23Z, o23E, o23K, o24, o24Z, o24E, o24K, o25, o25Z, o25E, o25K, o26, o26Z, o26E, o26K, o27, o27Z, o27E, o27K, o28, o28Z, o28E, o28K, p20⟩ := p20
      have f22 : fr S_Mod_readFreshX_6 h h19 := fr_call f8 fh19 rfl
      have R29 : RM h19 T D := RM_fr fh19 rfl R11
      have g30 : 0 ≤ o23Z ∧ o23Z ≤ 160 := inv_at hI21 o23E o23K.symm rfl
      have g31 : 0 ≤ o24Z ∧ o24Z ≤ 160 := inv_at hI21 o24E o24K.symm rfl
      replace p20 := p20.resolve_right (fun q => by (first | decide +kernel | omega))
      refine V_iload_n 3 d_Mod_readFresh_90 rfl rfl ?_
      exact V_iret rfl d_Mod_readFresh_91 ⟨z4, rfl, ⟨hI21, f22, o23, o23Z, o23E, o23K, o24, o24Z, o24E, o24K, o25, o25Z, o25E, o25K, o26, o26Z, o26E, o26K, o27, o27Z, o27E, o27K, o28, o28Z, o28E, o28K, ⟨(Or.inl (⟨by (first | decide +kernel | omega), by (first | decide +kernel | omega), by (first | decide +kernel | omega)⟩)), by (first | decide +kernel | omega), by (first | decide +kernel | omega), by (first | decide +kernel | omega), by rw [z4E]; omega, by rw [z4E]; omega⟩⟩⟩
    ·
      exact absurd c17 (by (first | decide +kernel | omega))
  ·
    replace p6 := And.intro p6.1 (p6.2.resolve_left (fun q => by (first | decide +kernel | omega)))
    refine V_aload_n 0 d_Mod_readFresh_14 rfl rfl ?_
    refine V_aload_n 0 d_Mod_readFresh_15 rfl rfl ?_
    refine V_getR fa_Mod_20 sk_116 rfl d_Mod_readFresh_16 ?_
    refine V_iload_n 1 d_Mod_readFresh_19 rfl rfl ?_
    refine V_iconst 4 d_Mod_readFresh_20 (by decide) ?_
    refine V_isubw d_Mod_readFresh_21 (fun z32 z32e => ?_)
    obtain rfl : z32 = 2 := z32e.trans (by decide)
    refine N_ialdK sk_120 tc_2 (by (first | decide +kernel | omega)) d_Mod_readFresh_22 (kn_call fh5 zK rfl) ?_
    refine V_iload_n 3 d_Mod_readFresh_23 rfl rfl ?_
    refine N_ishr d_Mod_readFresh_24 (fun z34 z34Z z34E z34e => ?_)
    refine V_iconst 1 d_Mod_readFresh_25 (by decide) ?_
    refine N_iand d_Mod_readFresh_26 (fun z35 z35Z z35E z35e => ?_)
    have g36 : z35Z = T 3 z4Z := x_bt_of (RM_had R11 (by decide) (by decide) (kn_call fh5 zK rfl)) (by (first | decide +kernel | omega)) (by (first | decide +kernel | omega)) z4E z35E (by assumption) (by assumption)
    have g37 : T 3 z4Z = T 3 (x_vl b p0) := congrArg (T 3) (by (first | decide +kernel | omega))
    have g38 := x_c4_s (T 3 (x_vl b p0))
    refine V_if_ne 34 z35E d_Mod_readFresh_27 (by decide) (fun c39 => ?_) (fun c39 => ?_)
    ·
      replace g38 := g38.resolve_left (fun q => by (first | decide +kernel | omega))
      refine V_iconst 0 d_Mod_readFresh_34 (by decide) ?_
      refine V_iconst 4 d_Mod_readFresh_35 (by decide) ?_
      refine N_callVV [.int 0, .int 4] [] cv_Mod_144 sk_116 rfl d_Mod_readFresh_36 rfl (Nat.le_of_ble_eq_true rfl) (by decide) (by decide) (c_Mod_needsX h5 hI7 0 0 tc_0 4 4 tc_4 g gZ gE (kn_call fh5 gK rfl) o9 o9Z o9E o9K o10 o10Z o10E o10K) (fun h41 p42 => ?_)
      obtain ⟨hI43, fh41, o45, o45Z, o45E, o45K, o46, o46Z, o46E, o46K, p42⟩ := p42
      have f44 : fr S_Mod_readFreshX_6 h h41 := fr_call f8 fh41 rfl
      have R47 : RM h41 T D := RM_fr fh41 rfl R11
      replace p42 := (p42.resolve_left (by (first | decide +kernel | omega))).2.2
      refine V_aload_n 0 d_Mod_readFresh_39 rfl rfl ?_
      refine N_getK fa_Mod_102 sk_116 rfl d_Mod_readFresh_40 o45K ?_
      refine V_if_ne 86 o45E d_Mod_readFresh_43 (by decide) (fun c48 => ?_) (fun c48 => ?_)
      ·
        refine V_aload_n 0 d_Mod_readFresh_86 rfl rfl ?_
        refine N_callVV [] [] cv_Mod_152 sk_116 rfl d_Mod_readFresh_87 rfl (Nat.le_of_ble_eq_true rfl) (by decide) (by decide) (c_Mod_nextX h41 b hI43 s sZ sE (kn_call fh41 (kn_call fh5 sK rfl) rfl) p pZ pE (kn_call fh41 (kn_call fh5 pK rfl) rfl) g gZ gE (kn_call fh41 (kn_call fh5 gK rfl) rfl) k kZ kE (kn_call fh41 (kn_call fh5 kK rfl) rfl) v vZ vE (kn_call fh41 (kn_call fh5 vK rfl) rfl) o45 o45Z o45E o45K o46 o46Z o46E o46K (TP_fr f44 (fun _ => rfl) hy0) (by (first | decide +kernel | omega))) (fun h50 p51 => ?_)
        obtain ⟨hI52, fh50, o54, o54Z, o54E, o54K, o55, o55Z, o55E, o55K, o56, o56Z, o56E, o56K, o57, o57Z, o57E, o57K, o58, o58Z, o58E, o58K, o59, o59Z, o59E, o59K, p51⟩ := p51
        have f53 : fr S_Mod_readFreshX_6 h h50 := fr_call f44 fh50 rfl
        have R60 : RM h50 T D := RM_fr fh50 rfl R47
        have g61 : 0 ≤ o54Z ∧ o54Z ≤ 160 := inv_at hI52 o54E o54K.symm rfl
        have g62 : 0 ≤ o55Z ∧ o55Z ≤ 160 := inv_at hI52 o55E o55K.symm rfl
        replace p51 := p51.resolve_right (fun q => by (first | decide +kernel | omega))
        refine V_iload_n 3 d_Mod_readFresh_90 rfl rfl ?_
        exact V_iret rfl d_Mod_readFresh_91 ⟨z4, rfl, ⟨hI52, f53, o54, o54Z, o54E, o54K, o55, o55Z, o55E, o55K, o56, o56Z, o56E, o56K, o57, o57Z, o57E, o57K, o58, o58Z, o58E, o58K, o59, o59Z, o59E, o59K, ⟨(Or.inr (Or.inl (⟨by (first | decide +kernel | omega), by (first | decide +kernel | omega), by (first | decide +kernel | omega), by (first | decide +kernel | omega)⟩))), by (first | decide +kernel | omega), by (first | decide +kernel | omega), by (first | decide +kernel | omega), by rw [z4E]; omega, by rw [z4E]; omega⟩⟩⟩
      ·
        exact absurd c48 (by (first | decide +kernel | omega))
    ·
      replace g38 := g38.resolve_right (fun q => by (first | decide +kernel | omega))
      refine V_iconst 1 d_Mod_readFresh_30 (by decide) ?_
      refine V_goto 35 d_Mod_readFresh_31 (by decide) ?_
      refine V_iconst 4 d_Mod_readFresh_35 (by decide) ?_
      refine N_callVV [.int 1, .int 4] [] cv_Mod_144 sk_116 rfl d_Mod_readFresh_36 rfl (Nat.le_of_ble_eq_true rfl) (by decide) (by decide) (c_Mod_needsX h5 hI7 1 1 tc_1 4 4 tc_4 g gZ gE (kn_call fh5 gK rfl) o9 o9Z o9E o9K o10 o10Z o10E o10K) (fun h64 p65 => ?_)
      obtain ⟨hI66, fh64, o68, o68Z, o68E, o68K, o69, o69Z, o69E, o69K, p65⟩ := p65
      have f67 : fr S_Mod_readFreshX_6 h h64 := fr_call f8 fh64 rfl
      have R70 : RM h64 T D := RM_fr fh64 rfl R11
      replace p65 := (p65.resolve_right (by (first | decide +kernel | omega))).2
      refine V_aload_n 0 d_Mod_readFresh_39 rfl rfl ?_
      refine N_getK fa_Mod_102 sk_116 rfl d_Mod_readFresh_40 o68K ?_
      refine V_if_ne 86 o68E d_Mod_readFresh_43 (by decide) (fun c71 => ?_) (fun c71 => ?_)
      ·
        exact absurd c71 (by (first | decide +kernel | omega))
      ·
        refine V_aload_n 0 d_Mod_readFresh_46 rfl rfl ?_
        refine V_getR fa_Mod_20 sk_116 rfl d_Mod_readFresh_47 ?_
        refine V_iload_n 1 d_Mod_readFresh_50 rfl rfl ?_
        refine V_iconst 4 d_Mod_readFresh_51 (by decide) ?_
        refine V_isubw d_Mod_readFresh_52 (fun z72 z72e => ?_)
        obtain rfl : z72 = 2 := z72e.trans (by decide)
        refine V_dup2 d_Mod_readFresh_53 rfl rfl ?_
        refine N_ialdK sk_120 tc_2 (by (first | decide +kernel | omega)) d_Mod_readFresh_54 (kn_call fh64 (kn_call fh5 zK rfl) rfl) ?_
        refine V_iconst 1 d_Mod_readFresh_55 (by decide) ?_
        refine V_iload_n 3 d_Mod_readFresh_56 rfl rfl ?_
        refine N_ishl d_Mod_readFresh_57 (fun z74 z74Z z74E z74e => ?_)
        refine N_ior d_Mod_readFresh_58 (fun z75 z75Z z75E z75e => ?_)
        refine N_iast sk_120 tc_2 (by (first | decide +kernel | omega)) d_Mod_readFresh_59 (fun h76 eh76 => ?_)
        have hI77 : Inv h76 := inv_full hI66 eh76 rfl
        have f78 : fr S_Mod_readFreshX_6 h h76 := fr_put f67 eh76 rfl
        refine V_aload_n 0 d_Mod_readFresh_60 rfl rfl ?_
        refine V_iload_n 1 d_Mod_readFresh_61 rfl rfl ?_
        refine V_bipush 8 d_Mod_readFresh_62 (by decide) ?_
        refine V_icmp_ge 79 tc_6 tc_8 d_Mod_readFresh_64 (by decide) (fun c80 => ?_) (fun c80 => ?_)
        ·
          exact absurd c80 (by decide)
        ·
          refine V_iload_n 3 d_Mod_readFresh_67 rfl rfl ?_
          refine V_aload_n 0 d_Mod_readFresh_68 rfl rfl ?_
          refine N_getK fa_Mod_78 sk_116 rfl d_Mod_readFresh_69 (kn_ne eh76 (kn_call fh64 (kn_call fh5 iK rfl) rfl) (by decide)) ?_
          refine V_icmp_le 79 z4E iE d_Mod_readFresh_72 (by decide) (fun c81 => ?_) (fun c81 => ?_)
          ·
            refine V_aload_n 0 d_Mod_readFresh_79 rfl rfl ?_
            refine N_getK fa_Mod_78 sk_116 rfl d_Mod_readFresh_80 (kn_ne eh76 (kn_call fh64 (kn_call fh5 iK rfl) rfl) (by decide)) ?_
            refine N_putI fp_Mod_78 sk_116 rfl d_Mod_readFresh_83 (fun h82 eh82 => ?_)
            have hI83 : Inv h82 := inv_full hI77 eh82 rfl
            have f84 : fr S_Mod_readFreshX_6 h h82 := fr_put f78 eh82 rfl
            have R85 : RM h82 (x_upT T 3 (x_vl b p0)) D := RM_fresh (l := 3) R70 ⟨by decide, by decide⟩ eh76 (kn_call fh64 (kn_call fh5 zK rfl) rfl) (by (first | decide +kernel | omega)) (z4E.trans (by (first | decide +kernel | omega))) (by assumption) (by assumption) rfl eh82 iE ((congrArg Int32.toInt (kn_call fh64 (kn_call fh5 iK rfl) rfl)).trans iE) (Or.inl ⟨by decide, by (first | decide +kernel | omega)⟩)
            refine V_aload_n 0 d_Mod_readFresh_86 rfl rfl ?_
            refine N_callVV [] [] cv_Mod_152 sk_116 rfl d_Mod_readFresh_87 rfl (Nat.le_of_ble_eq_true rfl) (by decide) (by decide) (c_Mod_nextX h82 b hI83 s sZ sE (kn_nei eh82 (kn_ne eh76 (kn_call fh64 (kn_call fh5 sK rfl) rfl) (by decide)) (by decide)) p pZ pE (kn_nei eh82 (kn_ne eh76 (kn_call fh64 (kn_call fh5 pK rfl) rfl) (by decide)) (by decide)) g gZ gE (kn_nei eh82 (kn_ne eh76 (kn_call fh64 (kn_call fh5 gK rfl) rfl) (by decide)) (by decide)) k kZ kE (kn_nei eh82 (kn_ne eh76 (kn_call fh64 (kn_call fh5 kK rfl) rfl) (by decide)) (by decide)) v vZ vE (kn_nei eh82 (kn_ne eh76 (kn_call fh64 (kn_call fh5 vK rfl) rfl) (by decide)) (by decide)) o68 o68Z o68E (kn_nei eh82 (kn_ne eh76 o68K (by decide)) (by decide)) o69 o69Z o69E (kn_nei eh82 (kn_ne eh76 o69K (by decide)) (by decide)) (TP_fr f84 (fun _ => rfl) hy0) (by (first | decide +kernel | omega))) (fun h87 p88 => ?_)
            obtain ⟨hI89, fh87, o91, o91Z, o91E, o91K, o92, o92Z, o92E, o92K, o93, o93Z, o93E, o93K, o94, o94Z, o94E, o94K, o95, o95Z, o95E, o95K, o96, o96Z, o96E, o96K, p88⟩ := p88
            have f90 : fr S_Mod_readFreshX_6 h h87 := fr_call f84 fh87 rfl
            have R97 : RM h87 (x_upT T 3 (x_vl b p0)) D := RM_fr fh87 rfl R85
            have g98 : 0 ≤ o91Z ∧ o91Z ≤ 160 := inv_at hI89 o91E o91K.symm rfl
            have g99 : 0 ≤ o92Z ∧ o92Z ≤ 160 := inv_at hI89 o92E o92K.symm rfl
            replace p88 := p88.resolve_left (fun q => by (first | decide +kernel | omega))
            refine V_iload_n 3 d_Mod_readFresh_90 rfl rfl ?_
            exact V_iret rfl d_Mod_readFresh_91 ⟨z4, rfl, ⟨hI89, f90, o91, o91Z, o91E, o91K, o92, o92Z, o92E, o92K, o93, o93Z, o93E, o93K, o94, o94Z, o94E, o94K, o95, o95Z, o95E, o95K, o96, o96Z, o96E, o96K, ⟨(Or.inr (Or.inr (⟨by (first | decide +kernel | omega), by (first | decide +kernel | omega), by rw [z4E]; omega, (if q9 : o95Z = 0 then Or.inr ⟨q9, by (first | decide +kernel | omega), by (first | decide +kernel | omega), by (first | decide +kernel | omega), by (first | decide +kernel | omega), by (first | decide +kernel | omega), by (first | decide +kernel | omega), by (first | decide +kernel | omega), by (first | decide +kernel | omega), by (first | decide +kernel | omega), by (first | decide +kernel | omega), by (first | decide +kernel | omega)⟩ else Or.inl ⟨by (first | decide +kernel | omega), by (first | decide +kernel | omega), by (first | decide +kernel | omega)⟩), R97⟩))), by (first | decide +kernel | omega), by (first | decide +kernel | omega), by (first | decide +kernel | omega), by rw [z4E]; omega, by rw [z4E]; omega⟩⟩⟩
          ·
            refine V_iload_n 3 d_Mod_readFresh_75 rfl rfl ?_
            refine V_goto 83 d_Mod_readFresh_76 (by decide) ?_
            refine N_putI fp_Mod_78 sk_116 rfl d_Mod_readFresh_83 (fun h100 eh100 => ?_)
            have hI101 : Inv h100 := inv_full hI77 eh100 rfl
            have f102 : fr S_Mod_readFreshX_6 h h100 := fr_put f78 eh100 rfl
            have R103 : RM h100 (x_upT T 3 (x_vl b p0)) D := RM_fresh (l := 3) R70 ⟨by decide, by decide⟩ eh76 (kn_call fh64 (kn_call fh5 zK rfl) rfl) (by (first | decide +kernel | omega)) (z4E.trans (by (first | decide +kernel | omega))) (by assumption) (by assumption) rfl eh100 z4E ((congrArg Int32.toInt (kn_call fh64 (kn_call fh5 iK rfl) rfl)).trans iE) (Or.inl ⟨by decide, by (first | decide +kernel | omega)⟩)
            refine V_aload_n 0 d_Mod_readFresh_86 rfl rfl ?_
            refine N_callVV [] [] cv_Mod_152 sk_116 rfl d_Mod_readFresh_87 rfl (Nat.le_of_ble_eq_true rfl) (by decide) (by decide) (c_Mod_nextX h100 b hI101 s sZ sE (kn_nei eh100 (kn_ne eh76 (kn_call fh64 (kn_call fh5 sK rfl) rfl) (by decide)) (by decide)) p pZ pE (kn_nei eh100 (kn_ne eh76 (kn_call fh64 (kn_call fh5 pK rfl) rfl) (by decide)) (by decide)) g gZ gE (kn_nei eh100 (kn_ne eh76 (kn_call fh64 (kn_call fh5 gK rfl) rfl) (by decide)) (by decide)) k kZ kE (kn_nei eh100 (kn_ne eh76 (kn_call fh64 (kn_call fh5 kK rfl) rfl) (by decide)) (by decide)) v vZ vE (kn_nei eh100 (kn_ne eh76 (kn_call fh64 (kn_call fh5 vK rfl) rfl) (by decide)) (by decide)) o68 o68Z o68E (kn_nei eh100 (kn_ne eh76 o68K (by decide)) (by decide)) o69 o69Z o69E (kn_nei eh100 (kn_ne eh76 o69K (by decide)) (by decide)) (TP_fr f102 (fun _ => rfl) hy0) (by (first | decide +kernel | omega))) (fun h105 p106 => ?_)
            obtain ⟨hI107, fh105, o109, o109Z, o109E, o109K, o110, o110Z, o110E, o110K, o111, o111Z, o111E, o111K, o112, o112Z, o112E, o112K, o113, o113Z, o113E, o113K, o114, o114Z, o114E, o114K, p106⟩ := p106
            have f108 : fr S_Mod_readFreshX_6 h h105 := fr_call f102 fh105 rfl
            have R115 : RM h105 (x_upT T 3 (x_vl b p0)) D := RM_fr fh105 rfl R103
            have g116 : 0 ≤ o109Z ∧ o109Z ≤ 160 := inv_at hI107 o109E o109K.symm rfl
            have g117 : 0 ≤ o110Z ∧ o110Z ≤ 160 := inv_at hI107 o110E o110K.symm rfl
            replace p106 := p106.resolve_left (fun q => by (first | decide +kernel | omega))
            refine V_iload_n 3 d_Mod_readFresh_90 rfl rfl ?_
            exact V_iret rfl d_Mod_readFresh_91 ⟨z4, rfl, ⟨hI107, f108, o109, o109Z, o109E, o109K, o110, o110Z, o110E, o110K, o111, o111Z, o111E, o111K, o112, o112Z, o112E, o112K, o113, o113Z, o113E, o113K, o114, o114Z, o114E, o114K, ⟨(Or.inr (Or.inr (⟨by (first | decide +kernel | omega), by (first | decide +kernel | omega), by rw [z4E]; omega, (if q9 : o113Z = 0 then Or.inr ⟨q9, by (first | decide +kernel | omega), by (first | decide +kernel | omega), by (first | decide +kernel | omega), by (first | decide +kernel | omega), by (first | decide +kernel | omega), by (first | decide +kernel | omega), by (first | decide +kernel | omega), by (first | decide +kernel | omega), by (first | decide +kernel | omega), by (first | decide +kernel | omega), by (first | decide +kernel | omega)⟩ else Or.inl ⟨by (first | decide +kernel | omega), by (first | decide +kernel | omega), by (first | decide +kernel | omega)⟩), R115⟩))), by (first | decide +kernel | omega), by (first | decide +kernel | omega), by (first | decide +kernel | omega), by rw [z4E]; omega, by rw [z4E]; omega⟩⟩⟩
def S_Mod_readFreshX_7 : List (Nat × Option Nat) := [(116, some 16), (116, some 17), (116, some 18), (116, some 19), (116, some 20), (116, some 21), (120, some 3), (116, some 13)]
abbrev q_Mod_readFreshX_7 (h : Hp) (b : Int → Int) (T : Nat → Int → Int) (D : Nat → Int) (p0 : Int) (s : Int32) (sZ : Int) (p : Int32) (pZ : Int) (g : Int32) (gZ : Int) (k : Int32) (kZ : Int) (v : Int32) (vZ : Int) (w : Int32) (wZ : Int) (a : Int32) (aZ : Int) (z : Int32) (zZ : Int) (i : Int32) (iZ : Int) : Option Value → Hp → Prop := pInt (fun r h' => Inv h' ∧ fr S_Mod_readFreshX_7 h h' ∧ ∃ (q : Int32) (qZ : Int), q.toInt = qZ ∧ h'.1 116 16 = q ∧ ∃ (f : Int32) (fZ : Int), f.toInt = fZ ∧ h'.1 116 17 = f ∧ ∃ (m : Int32) (mZ : Int), m.toInt = mZ ∧ h'.1 116 18 = m ∧ ∃ (x : Int32) (xZ : Int), x.toInt = xZ ∧ h'.1 116 19 = x ∧ ∃ (u : Int32) (uZ : Int), u.toInt = uZ ∧ h'.1 116 20 = u ∧ ∃ (y : Int32) (yZ : Int), y.toInt = yZ ∧ h'.1 116 21 = y ∧ ((x_cN b p0 0 15 ≠ 0 ∧ uZ = x_cN b p0 0 15 ∧ yZ = x_fr b p0 ∨ x_cN b p0 0 15 = 0 ∧ x_c4 (T 4 (x_vl b p0)) ≠ 0 ∧ uZ = 4 ∧ yZ = x_fr b p0 ∨ x_cN b p0 0 15 = 0 ∧ x_c4 (T 4 (x_vl b p0)) = 0 ∧ r.toInt = x_vl b p0 ∧ (uZ = 1 ∧ x_kd b (x_en b p0) = 4 ∧ yZ = x_fr b (x_en b p0) ∨ uZ = 0 ∧ fZ = x_fr b (x_en b p0) ∧ mZ = x_kd b (x_en b p0) ∧ mZ ≠ 4 ∧ 0 ≤ mZ ∧ mZ ≤ 3 ∧ qZ = x_en b (x_en b p0) ∧ (mZ ≠ 2 ∨ xZ = x_vl b (x_en b p0) ∧ 0 ≤ xZ ∧ xZ ≤ 99) ∧ (x_en b p0) ≤ fZ ∧ fZ ≤ qZ ∧ qZ ≤ sZ ∧ (mZ = 0 ∨ fZ < qZ)) ∧ RM h' (x_upT T 4 (x_vl b p0)) D) ∧ 0 ≤ qZ ∧ qZ ≤ sZ ∧ 0 ≤ uZ ∧ 0 ≤ r.toInt ∧ r.toInt ≤ 15))
set_option maxRecDepth 100000 in
theorem c_Mod_readFreshX_7 (h : Hp) (b : Int → Int) (T : Nat → Int → Int) (D : Nat → Int) (p0 : Int) (hI : Inv h) (s : Int32) (sZ : Int) (sE : s.toInt = sZ) (sK : h.1 116 15 = s) (p : Int32) (pZ : Int) (pE : p.toInt = pZ) (pK : h.1 116 16 = p) (g : Int32) (gZ : Int) (gE : g.toInt = gZ) (gK : h.1 116 17 = g) (k : Int32) (kZ : Int) (kE : k.toInt = kZ) (kK : h.1 116 18 = k) (v : Int32) (vZ : Int) (vE : v.toInt = vZ) (vK : h.1 116 19 = v) (w : Int32) (wZ : Int) (wE : w.toInt = wZ) (wK : h.1 116 20 = w) (a : Int32) (aZ : Int) (aE : a.toInt = aZ) (aK : h.1 116 21 = a) (z : Int32) (zZ : Int) (zE : z.toInt = zZ) (zK : h.1 120 3 = z) (i : Int32) (iZ : Int) (iE : i.toInt = iZ) (iK : h.1 116 13 = i) (hy0 : TP h 121 sZ b) (hy1 : 0 ≤ pZ ∧ pZ ≤ sZ ∧ wZ = 0) (hy2 : gZ = x_fr b p0 ∧ kZ = x_kd b p0 ∧ kZ ≠ 4 ∧ 0 ≤ kZ ∧ kZ ≤ 3 ∧ pZ = x_en b p0 ∧ (kZ ≠ 2 ∨ vZ = x_vl b p0 ∧ 0 ≤ vZ ∧ vZ ≤ 99) ∧ p0 ≤ gZ ∧ gZ ≤ pZ ∧ pZ ≤ sZ ∧ (kZ = 0 ∨ gZ < pZ)) (hy3 : RM h T D) : Ct y_Mod_readFresh b_Mod_readFresh 4 (some .int) 2 47 [.ref 116, .int 7, .int 15] h (q_Mod_readFreshX_7 h b T D p0 s sZ p pZ g gZ k kZ v vZ w wZ a aZ z zZ i iZ) := by
  refine ct_ow R_Mod [some (.ref 116), some (.int 7), some (.int 15), none] rfl (by decide) rfl (Nat.le_of_ble_eq_true rfl) ?_
  have f0 : fr S_Mod_readFreshX_7 h h := fr_rf
  have g1 : 0 ≤ sZ ∧ sZ ≤ 160 := inv_at hI sE sK.symm rfl
  have g2 : 0 ≤ pZ ∧ pZ ≤ 160 := inv_at hI pE pK.symm rfl
  have g3 : 0 ≤ gZ ∧ gZ ≤ 160 := inv_at hI gE gK.symm rfl
  refine V_aload_n 0 d_Mod_readFresh_0 rfl rfl ?_
  refine V_iconst 0 d_Mod_readFresh_1 (by decide) ?_
  refine V_iload_n 2 d_Mod_readFresh_2 rfl rfl ?_
  refine N_callVI [.int 0, .int 15] [] cv_Mod_148 sk_116 rfl d_Mod_readFresh_3 rfl (Nat.le_of_ble_eq_true rfl) (by decide) (by decide) (c_Mod_lookedX h hI 0 0 tc_0 15 15 tc_15 g gZ gE gK k kZ kE kK v vZ vE vK w wZ wE wK a aZ aE aK) (fun z4 h5 z4Z z4E p6 => ?_)
  obtain ⟨hI7, fh5, o9, o9Z, o9E, o9K, o10, o10Z, o10E, o10K, p6⟩ := p6
  have f8 : fr S_Mod_readFreshX_7 h h5 := fr_call f0 fh5 rfl
  have R11 : RM h5 T D := RM_fr fh5 rfl hy3
  refine V_istore_n 3 [some (.ref 116), some (.int 7), some (.int 15), some (.int z4)] d_Mod_readFresh_6 rfl (by decide) rfl rfl ?_
  replace p6 := lk_all hy2 hy1.2.2 p6
  replace hy2 := lx_s hy2
  have g12 : x_fr b pZ = x_fr b (x_en b p0) := congrArg (x_fr b) (by (first | decide +kernel | omega))
  have g13 : x_kd b pZ = x_kd b (x_en b p0) := congrArg (x_kd b) (by (first | decide +kernel | omega))
  have g14 : x_en b pZ = x_en b (x_en b p0) := congrArg (x_en b) (by (first | decide +kernel | omega))
  have g15 : x_vl b pZ = x_vl b (x_en b p0) := congrArg (x_vl b) (by (first | decide +kernel | omega))
  refine V_aload_n 0 d_Mod_readFresh_7 rfl rfl ?_
  refine N_getK fa_Mod_102 sk_116 rfl d_Mod_readFresh_8 o9K ?_
  refine V_if_ne 39 o9E d_Mod_readFresh_11 (by decide) (fun c16 => ?_) (fun c16 => ?_)
  ·
    replace p6 := And.intro p6.1 (p6.2.resolve_right (fun q => by (first | decide +kernel | omega)))
    refine V_aload_n 0 d_Mod_readFresh_39 rfl rfl ?_
    refine N_getK fa_Mod_102 sk_116 rfl d_Mod_readFresh_40 o9K ?_
    refine V_if_ne 86 o9E d_Mod_readFresh_43 (by decide) (fun c17 => ?_) (fun c17 => ?_)
    ·
      refine V_aload_n 0 d_Mod_readFresh_86 rfl rfl ?_
      refine N_callVV [] [] cv_Mod_152 sk_116 rfl d_Mod_readFresh_87 rfl (Nat.le_of_ble_eq_true rfl) (by decide) (by decide) (c_Mod_nextX h5 b hI7 s sZ sE (kn_call fh5 sK rfl) p pZ pE (kn_call fh5 pK rfl) g gZ gE (kn_call fh5 gK rfl) k kZ kE (kn_call fh5 kK rfl) v vZ vE (kn_call fh5 vK rfl) o9 o9Z o9E o9K o10 o10Z o10E o10K (TP_fr f8 (fun _ => rfl) hy0) (by (first | decide +kernel | omega))) (fun h19 p20 => ?_)
      obtain ⟨hI21, fh19, o23, o23Z, o23E, o23K, o24, o24Z, o24E, o24K, o25, o25Z, o25E, o25K, o26, o26Z, o26E, o26K, o27, o27Z, o27E, o27K, o28, o28Z, o28E, o28K, p20⟩ := p20
      have f22 : fr S_Mod_readFreshX_7 h h19 := fr_call f8 fh19 rfl
      have R29 : RM h19 T D := RM_fr fh19 rfl R11
      have g30 : 0 ≤ o23Z ∧ o23Z ≤ 160 := inv_at hI21 o23E o23K.symm rfl
      have g31 : 0 ≤ o24Z ∧ o24Z ≤ 160 := inv_at hI21 o24E o24K.symm rfl
      replace p20 := p20.resolve_right (fun q => by (first | decide +kernel | omega))
      refine V_iload_n 3 d_Mod_readFresh_90 rfl rfl ?_
      exact V_iret rfl d_Mod_readFresh_91 ⟨z4, rfl, ⟨hI21, f22, o23, o23Z, o23E, o23K, o24, o24Z, o24E, o24K, o25, o25Z, o25E, o25K, o26, o26Z, o26E, o26K, o27, o27Z, o27E, o27K, o28, o28Z, o28E, o28K, ⟨(Or.inl (⟨by (first | decide +kernel | omega), by (first | decide +kernel | omega), by (first | decide +kernel | omega)⟩)), by (first | decide +kernel | omega), by (first | decide +kernel | omega), by (first | decide +kernel | omega), by rw [z4E]; omega, by rw [z4E]; omega⟩⟩⟩
    ·
      exact absurd c17 (by (first | decide +kernel | omega))
  ·
    replace p6 := And.intro p6.1 (p6.2.resolve_left (fun q => by (first | decide +kernel | omega)))
    refine V_aload_n 0 d_Mod_readFresh_14 rfl rfl ?_
    refine V_aload_n 0 d_Mod_readFresh_15 rfl rfl ?_
    refine V_getR fa_Mod_20 sk_116 rfl d_Mod_readFresh_16 ?_
    refine V_iload_n 1 d_Mod_readFresh_19 rfl rfl ?_
    refine V_iconst 4 d_Mod_readFresh_20 (by decide) ?_
    refine V_isubw d_Mod_readFresh_21 (fun z32 z32e => ?_)
    obtain rfl : z32 = 3 := z32e.trans (by decide)
    refine N_ialdK sk_120 tc_3 (by (first | decide +kernel | omega)) d_Mod_readFresh_22 (kn_call fh5 zK rfl) ?_
    refine V_iload_n 3 d_Mod_readFresh_23 rfl rfl ?_
    refine N_ishr d_Mod_readFresh_24 (fun z34 z34Z z34E z34e => ?_)
    refine V_iconst 1 d_Mod_readFresh_25 (by decide) ?_
    refine N_iand d_Mod_readFresh_26 (fun z35 z35Z z35E z35e => ?_)
    have g36 : z35Z = T 4 z4Z := x_bt_of (RM_had R11 (by decide) (by decide) (kn_call fh5 zK rfl)) (by (first | decide +kernel | omega)) (by (first | decide +kernel | omega)) z4E z35E (by assumption) (by assumption)
    have g37 : T 4 z4Z = T 4 (x_vl b p0) := congrArg (T 4) (by (first | decide +kernel | omega))
    have g38 := x_c4_s (T 4 (x_vl b p0))
    refine V_if_ne 34 z35E d_Mod_readFresh_27 (by decide) (fun c39 => ?_) (fun c39 => ?_)
    ·
      replace g38 := g38.resolve_left (fun q => by (first | decide +kernel | omega))
      refine V_iconst 0 d_Mod_readFresh_34 (by decide) ?_
      refine V_iconst 4 d_Mod_readFresh_35 (by decide) ?_
      refine N_callVV [.int 0, .int 4] [] cv_Mod_144 sk_116 rfl d_Mod_readFresh_36 rfl (Nat.le_of_ble_eq_true rfl) (by decide) (by decide) (c_Mod_needsX h5 hI7 0 0 tc_0 4 4 tc_4 g gZ gE (kn_call fh5 gK rfl) o9 o9Z o9E o9K o10 o10Z o10E o10K) (fun h41 p42 => ?_)
      obtain ⟨hI43, fh41, o45, o45Z, o45E, o45K, o46, o46Z, o46E, o46K, p42⟩ := p42
      have f44 : fr S_Mod_readFreshX_7 h h41 := fr_call f8 fh41 rfl
      have R47 : RM h41 T D := RM_fr fh41 rfl R11
      replace p42 := (p42.resolve_left (by (first | decide +kernel | omega))).2.2
      refine V_aload_n 0 d_Mod_readFresh_39 rfl rfl ?_
      refine N_getK fa_Mod_102 sk_116 rfl d_Mod_readFresh_40 o45K ?_
      refine V_if_ne 86 o45E d_Mod_readFresh_43 (by decide) (fun c48 => ?_) (fun c48 => ?_)
      ·
        refine V_aload_n 0 d_Mod_readFresh_86 rfl rfl ?_
        refine N_callVV [] [] cv_Mod_152 sk_116 rfl d_Mod_readFresh_87 rfl (Nat.le_of_ble_eq_true rfl) (by decide) (by decide) (c_Mod_nextX h41 b hI43 s sZ sE (kn_call fh41 (kn_call fh5 sK rfl) rfl) p pZ pE (kn_call fh41 (kn_call fh5 pK rfl) rfl) g gZ gE (kn_call fh41 (kn_call fh5 gK rfl) rfl) k kZ kE (kn_call fh41 (kn_call fh5 kK rfl) rfl) v vZ vE (kn_call fh41 (kn_call fh5 vK rfl) rfl) o45 o45Z o45E o45K o46 o46Z o46E o46K (TP_fr f44 (fun _ => rfl) hy0) (by (first | decide +kernel | omega))) (fun h50 p51 => ?_)
        obtain ⟨hI52, fh50, o54, o54Z, o54E, o54K, o55, o55Z, o55E, o55K, o56, o56Z, o56E, o56K, o57, o57Z, o57E, o57K, o58, o58Z, o58E, o58K, o59, o59Z, o59E, o59K, p51⟩ := p51
        have f53 : fr S_Mod_readFreshX_7 h h50 := fr_call f44 fh50 rfl
        have R60 : RM h50 T D := RM_fr fh50 rfl R47
        have g61 : 0 ≤ o54Z ∧ o54Z ≤ 160 := inv_at hI52 o54E o54K.symm rfl
        have g62 : 0 ≤ o55Z ∧ o55Z ≤ 160 := inv_at hI52 o55E o55K.symm rfl
        replace p51 := p51.resolve_right (fun q => by (first | decide +kernel | omega))
        refine V_iload_n 3 d_Mod_readFresh_90 rfl rfl ?_
        exact V_iret rfl d_Mod_readFresh_91 ⟨z4, rfl, ⟨hI52, f53, o54, o54Z, o54E, o54K, o55, o55Z, o55E, o55K, o56, o56Z, o56E, o56K, o57, o57Z, o57E, o57K, o58, o58Z, o58E, o58K, o59, o59Z, o59E, o59K, ⟨(Or.inr (Or.inl (⟨by (first | decide +kernel | omega), by (first | decide +kernel | omega), by (first | decide +kernel | omega), by (first | decide +kernel | omega)⟩))), by (first | decide +kernel | omega), by (first | decide +kernel | omega), by (first | decide +kernel | omega), by rw [z4E]; omega, by rw [z4E]; omega⟩⟩⟩
      ·
        exact absurd c48 (by (first | decide +kernel | omega))
    ·
      replace g38 := g38.resolve_right (fun q => by (first | decide +kernel | omega))
      refine V_iconst 1 d_Mod_readFresh_30 (by decide) ?_
      refine V_goto 35 d_Mod_readFresh_31 (by decide) ?_
      refine V_iconst 4 d_Mod_readFresh_35 (by decide) ?_
      refine N_callVV [.int 1, .int 4] [] cv_Mod_144 sk_116 rfl d_Mod_readFresh_36 rfl (Nat.le_of_ble_eq_true rfl) (by decide) (by decide) (c_Mod_needsX h5 hI7 1 1 tc_1 4 4 tc_4 g gZ gE (kn_call fh5 gK rfl) o9 o9Z o9E o9K o10 o10Z o10E o10K) (fun h64 p65 => ?_)
      obtain ⟨hI66, fh64, o68, o68Z, o68E, o68K, o69, o69Z, o69E, o69K, p65⟩ := p65
      have f67 : fr S_Mod_readFreshX_7 h h64 := fr_call f8 fh64 rfl
      have R70 : RM h64 T D := RM_fr fh64 rfl R11
      replace p65 := (p65.resolve_right (by (first | decide +kernel | omega))).2
      refine V_aload_n 0 d_Mod_readFresh_39 rfl rfl ?_
      refine N_getK fa_Mod_102 sk_116 rfl d_Mod_readFresh_40 o68K ?_
      refine V_if_ne 86 o68E d_Mod_readFresh_43 (by decide) (fun c71 => ?_) (fun c71 => ?_)
      ·
        exact absurd c71 (by (first | decide +kernel | omega))
      ·
        refine V_aload_n 0 d_Mod_readFresh_46 rfl rfl ?_
        refine V_getR fa_Mod_20 sk_116 rfl d_Mod_readFresh_47 ?_
        refine V_iload_n 1 d_Mod_readFresh_50 rfl rfl ?_
        refine V_iconst 4 d_Mod_readFresh_51 (by decide) ?_
        refine V_isubw d_Mod_readFresh_52 (fun z72 z72e => ?_)
        obtain rfl : z72 = 3 := z72e.trans (by decide)
        refine V_dup2 d_Mod_readFresh_53 rfl rfl ?_
        refine N_ialdK sk_120 tc_3 (by (first | decide +kernel | omega)) d_Mod_readFresh_54 (kn_call fh64 (kn_call fh5 zK rfl) rfl) ?_
        refine V_iconst 1 d_Mod_readFresh_55 (by decide) ?_
        refine V_iload_n 3 d_Mod_readFresh_56 rfl rfl ?_
        refine N_ishl d_Mod_readFresh_57 (fun z74 z74Z z74E z74e => ?_)
        refine N_ior d_Mod_readFresh_58 (fun z75 z75Z z75E z75e => ?_)
        refine N_iast sk_120 tc_3 (by (first | decide +kernel | omega)) d_Mod_readFresh_59 (fun h76 eh76 => ?_)
        have hI77 : Inv h76 := inv_full hI66 eh76 rfl
        have f78 : fr S_Mod_readFreshX_7 h h76 := fr_put f67 eh76 rfl
        refine V_aload_n 0 d_Mod_readFresh_60 rfl rfl ?_
        refine V_iload_n 1 d_Mod_readFresh_61 rfl rfl ?_
        refine V_bipush 8 d_Mod_readFresh_62 (by decide) ?_
        refine V_icmp_ge 79 tc_7 tc_8 d_Mod_readFresh_64 (by decide) (fun c80 => ?_) (fun c80 => ?_)
        ·
          exact absurd c80 (by decide)
        ·
          refine V_iload_n 3 d_Mod_readFresh_67 rfl rfl ?_
          refine V_aload_n 0 d_Mod_readFresh_68 rfl rfl ?_
          refine N_getK fa_Mod_78 sk_116 rfl d_Mod_readFresh_69 (kn_ne eh76 (kn_call fh64 (kn_call fh5 iK rfl) rfl) (by decide)) ?_
          refine V_icmp_le 79 z4E iE d_Mod_readFresh_72 (by decide) (fun c81 => ?_) (fun c81 => ?_)
          ·
            refine V_aload_n 0 d_Mod_readFresh_79 rfl rfl ?_
            refine N_getK fa_Mod_78 sk_116 rfl d_Mod_readFresh_80 (kn_ne eh76 (kn_call fh64 (kn_call fh5 iK rfl) rfl) (by decide)) ?_
            refine N_putI fp_Mod_78 sk_116 rfl d_Mod_readFresh_83 (fun h82 eh82 => ?_)
            have hI83 : Inv h82 := inv_full hI77 eh82 rfl
            have f84 : fr S_Mod_readFreshX_7 h h82 := fr_put f78 eh82 rfl
            have R85 : RM h82 (x_upT T 4 (x_vl b p0)) D := RM_fresh (l := 4) R70 ⟨by decide, by decide⟩ eh76 (kn_call fh64 (kn_call fh5 zK rfl) rfl) (by (first | decide +kernel | omega)) (z4E.trans (by (first | decide +kernel | omega))) (by assumption) (by assumption) rfl eh82 iE ((congrArg Int32.toInt (kn_call fh64 (kn_call fh5 iK rfl) rfl)).trans iE) (Or.inl ⟨by decide, by (first | decide +kernel | omega)⟩)
            refine V_aload_n 0 d_Mod_readFresh_86 rfl rfl ?_
            refine N_callVV [] [] cv_Mod_152 sk_116 rfl d_Mod_readFresh_87 rfl (Nat.le_of_ble_eq_true rfl) (by decide) (by decide) (c_Mod_nextX h82 b hI83 s sZ sE (kn_nei eh82 (kn_ne eh76 (kn_call fh64 (kn_call fh5 sK rfl) rfl) (by decide)) (by decide)) p pZ pE (kn_nei eh82 (kn_ne eh76 (kn_call fh64 (kn_call fh5 pK rfl) rfl) (by decide)) (by decide)) g gZ gE (kn_nei eh82 (kn_ne eh76 (kn_call fh64 (kn_call fh5 gK rfl) rfl) (by decide)) (by decide)) k kZ kE (kn_nei eh82 (kn_ne eh76 (kn_call fh64 (kn_call fh5 kK rfl) rfl) (by decide)) (by decide)) v vZ vE (kn_nei eh82 (kn_ne eh76 (kn_call fh64 (kn_call fh5 vK rfl) rfl) (by decide)) (by decide)) o68 o68Z o68E (kn_nei eh82 (kn_ne eh76 o68K (by decide)) (by decide)) o69 o69Z o69E (kn_nei eh82 (kn_ne eh76 o69K (by decide)) (by decide)) (TP_fr f84 (fun _ => rfl) hy0) (by (first | decide +kernel | omega))) (fun h87 p88 => ?_)
            obtain ⟨hI89, fh87, o91, o91Z, o91E, o91K, o92, o92Z, o92E, o92K, o93, o93Z, o93E, o93K, o94, o94Z, o94E, o94K, o95, o95Z, o95E, o95K, o96, o96Z, o96E, o96K, p88⟩ := p88
            have f90 : fr S_Mod_readFreshX_7 h h87 := fr_call f84 fh87 rfl
            have R97 : RM h87 (x_upT T 4 (x_vl b p0)) D := RM_fr fh87 rfl R85
            have g98 : 0 ≤ o91Z ∧ o91Z ≤ 160 := inv_at hI89 o91E o91K.symm rfl
            have g99 : 0 ≤ o92Z ∧ o92Z ≤ 160 := inv_at hI89 o92E o92K.symm rfl
            replace p88 := p88.resolve_left (fun q => by (first | decide +kernel | omega))
            refine V_iload_n 3 d_Mod_readFresh_90 rfl rfl ?_
            exact V_iret rfl d_Mod_readFresh_91 ⟨z4, rfl, ⟨hI89, f90, o91, o91Z, o91E, o91K, o92, o92Z, o92E, o92K, o93, o93Z, o93E, o93K, o94, o94Z, o94E, o94K, o95, o95Z, o95E, o95K, o96, o96Z, o96E, o96K, ⟨(Or.inr (Or.inr (⟨by (first | decide +kernel | omega), by (first | decide +kernel | omega), by rw [z4E]; omega, (if q9 : o95Z = 0 then Or.inr ⟨q9, by (first | decide +kernel | omega), by (first | decide +kernel | omega), by (first | decide +kernel | omega), by (first | decide +kernel | omega), by (first | decide +kernel | omega), by (first | decide +kernel | omega), by (first | decide +kernel | omega), by (first | decide +kernel | omega), by (first | decide +kernel | omega), by (first | decide +kernel | omega), by (first | decide +kernel | omega)⟩ else Or.inl ⟨by (first | decide +kernel | omega), by (first | decide +kernel | omega), by (first | decide +kernel | omega)⟩), R97⟩))), by (first | decide +kernel | omega), by (first | decide +kernel | omega), by (first | decide +kernel | omega), by rw [z4E]; omega, by rw [z4E]; omega⟩⟩⟩
          ·
            refine V_iload_n 3 d_Mod_readFresh_75 rfl rfl ?_
            refine V_goto 83 d_Mod_readFresh_76 (by decide) ?_
            refine N_putI fp_Mod_78 sk_116 rfl d_Mod_readFresh_83 (fun h100 eh100 => ?_)
            have hI101 : Inv h100 := inv_full hI77 eh100 rfl
            have f102 : fr S_Mod_readFreshX_7 h h100 := fr_put f78 eh100 rfl
            have R103 : RM h100 (x_upT T 4 (x_vl b p0)) D := RM_fresh (l := 4) R70 ⟨by decide, by decide⟩ eh76 (kn_call fh64 (kn_call fh5 zK rfl) rfl) (by (first | decide +kernel | omega)) (z4E.trans (by (first | decide +kernel | omega))) (by assumption) (by assumption) rfl eh100 z4E ((congrArg Int32.toInt (kn_call fh64 (kn_call fh5 iK rfl) rfl)).trans iE) (Or.inl ⟨by decide, by (first | decide +kernel | omega)⟩)
            refine V_aload_n 0 d_Mod_readFresh_86 rfl rfl ?_
            refine N_callVV [] [] cv_Mod_152 sk_116 rfl d_Mod_readFresh_87 rfl (Nat.le_of_ble_eq_true rfl) (by decide) (by decide) (c_Mod_nextX h100 b hI101 s sZ sE (kn_nei eh100 (kn_ne eh76 (kn_call fh64 (kn_call fh5 sK rfl) rfl) (by decide)) (by decide)) p pZ pE (kn_nei eh100 (kn_ne eh76 (kn_call fh64 (kn_call fh5 pK rfl) rfl) (by decide)) (by decide)) g gZ gE (kn_nei eh100 (kn_ne eh76 (kn_call fh64 (kn_call fh5 gK rfl) rfl) (by decide)) (by decide)) k kZ kE (kn_nei eh100 (kn_ne eh76 (kn_call fh64 (kn_call fh5 kK rfl) rfl) (by decide)) (by decide)) v vZ vE (kn_nei eh100 (kn_ne eh76 (kn_call fh64 (kn_call fh5 vK rfl) rfl) (by decide)) (by decide)) o68 o68Z o68E (kn_nei eh100 (kn_ne eh76 o68K (by decide)) (by decide)) o69 o69Z o69E (kn_nei eh100 (kn_ne eh76 o69K (by decide)) (by decide)) (TP_fr f102 (fun _ => rfl) hy0) (by (first | decide +kernel | omega))) (fun h105 p106 => ?_)
            obtain ⟨hI107, fh105, o109, o109Z, o109E, o109K, o110, o110Z, o110E, o110K, o111, o111Z, o111E, o111K, o112, o112Z, o112E, o112K, o113, o113Z, o113E, o113K, o114, o114Z, o114E, o114K, p106⟩ := p106
            have f108 : fr S_Mod_readFreshX_7 h h105 := fr_call f102 fh105 rfl
            have R115 : RM h105 (x_upT T 4 (x_vl b p0)) D := RM_fr fh105 rfl R103
            have g116 : 0 ≤ o109Z ∧ o109Z ≤ 160 := inv_at hI107 o109E o109K.symm rfl
            have g117 : 0 ≤ o110Z ∧ o110Z ≤ 160 := inv_at hI107 o110E o110K.symm rfl
            replace p106 := p106.resolve_left (fun q => by (first | decide +kernel | omega))
            refine V_iload_n 3 d_Mod_readFresh_90 rfl rfl ?_
            exact V_iret rfl d_Mod_readFresh_91 ⟨z4, rfl, ⟨hI107, f108, o109, o109Z, o109E, o109K, o110, o110Z, o110E, o110K, o111, o111Z, o111E, o111K, o112, o112Z, o112E, o112K, o113, o113Z, o113E, o113K, o114, o114Z, o114E, o114K, ⟨(Or.inr (Or.inr (⟨by (first | decide +kernel | omega), by (first | decide +kernel | omega), by rw [z4E]; omega, (if q9 : o113Z = 0 then Or.inr ⟨q9, by (first | decide +kernel | omega), by (first | decide +kernel | omega), by (first | decide +kernel | omega), by (first | decide +kernel | omega), by (first | decide +kernel | omega), by (first | decide +kernel | omega), by (first | decide +kernel | omega), by (first | decide +kernel | omega), by (first | decide +kernel | omega), by (first | decide +kernel | omega), by (first | decide +kernel | omega)⟩ else Or.inl ⟨by (first | decide +kernel | omega), by (first | decide +kernel | omega), by (first | decide +kernel | omega)⟩), R115⟩))), by (first | decide +kernel | omega), by (first | decide +kernel | omega), by (first | decide +kernel | omega), by rw [z4E]; omega, by rw [z4E]; omega⟩⟩⟩
def S_Mod_readFreshX_8 : List (Nat × Option Nat) := [(116, some 16), (116, some 17), (116, some 18), (116, some 19), (116, some 20), (116, some 21), (120, some 4), (116, some 13)]
abbrev q_Mod_readFreshX_8 (h : Hp) (b : Int → Int) (T : Nat → Int → Int) (D : Nat → Int) (p0 : Int) (s : Int32) (sZ : Int) (p : Int32) (pZ : Int) (g : Int32) (gZ : Int) (k : Int32) (kZ : Int) (v : Int32) (vZ : Int) (w : Int32) (wZ : Int) (a : Int32) (aZ : Int) (z : Int32) (zZ : Int) (i : Int32) (iZ : Int) : Option Value → Hp → Prop := pInt (fun r h' => Inv h' ∧ fr S_Mod_readFreshX_8 h h' ∧ ∃ (q : Int32) (qZ : Int), q.toInt = qZ ∧ h'.1 116 16 = q ∧ ∃ (f : Int32) (fZ : Int), f.toInt = fZ ∧ h'.1 116 17 = f ∧ ∃ (m : Int32) (mZ : Int), m.toInt = mZ ∧ h'.1 116 18 = m ∧ ∃ (x : Int32) (xZ : Int), x.toInt = xZ ∧ h'.1 116 19 = x ∧ ∃ (u : Int32) (uZ : Int), u.toInt = uZ ∧ h'.1 116 20 = u ∧ ∃ (y : Int32) (yZ : Int), y.toInt = yZ ∧ h'.1 116 21 = y ∧ ((x_cN b p0 0 3 ≠ 0 ∧ uZ = x_cN b p0 0 3 ∧ yZ = x_fr b p0 ∨ x_cN b p0 0 3 = 0 ∧ x_c4 (T 5 (x_vl b p0)) ≠ 0 ∧ uZ = 4 ∧ yZ = x_fr b p0 ∨ x_cN b p0 0 3 = 0 ∧ x_c4 (T 5 (x_vl b p0)) = 0 ∧ r.toInt = x_vl b p0 ∧ (uZ = 1 ∧ x_kd b (x_en b p0) = 4 ∧ yZ = x_fr b (x_en b p0) ∨ uZ = 0 ∧ fZ = x_fr b (x_en b p0) ∧ mZ = x_kd b (x_en b p0) ∧ mZ ≠ 4 ∧ 0 ≤ mZ ∧ mZ ≤ 3 ∧ qZ = x_en b (x_en b p0) ∧ (mZ ≠ 2 ∨ xZ = x_vl b (x_en b p0) ∧ 0 ≤ xZ ∧ xZ ≤ 99) ∧ (x_en b p0) ≤ fZ ∧ fZ ≤ qZ ∧ qZ ≤ sZ ∧ (mZ = 0 ∨ fZ < qZ)) ∧ RM h' (x_upT T 5 (x_vl b p0)) D) ∧ 0 ≤ qZ ∧ qZ ≤ sZ ∧ 0 ≤ uZ ∧ 0 ≤ r.toInt ∧ r.toInt ≤ 3))
set_option maxRecDepth 100000 in
theorem c_Mod_readFreshX_8 (h : Hp) (b : Int → Int) (T : Nat → Int → Int) (D : Nat → Int) (p0 : Int) (hI : Inv h) (s : Int32) (sZ : Int) (sE : s.toInt = sZ) (sK : h.1 116 15 = s) (p : Int32) (pZ : Int) (pE : p.toInt = pZ) (pK : h.1 116 16 = p) (g : Int32) (gZ : Int) (gE : g.toInt = gZ) (gK : h.1 116 17 = g) (k : Int32) (kZ : Int) (kE : k.toInt = kZ) (kK : h.1 116 18 = k) (v : Int32) (vZ : Int) (vE : v.toInt = vZ) (vK : h.1 116 19 = v) (w : Int32) (wZ : Int) (wE : w.toInt = wZ) (wK : h.1 116 20 = w) (a : Int32) (aZ : Int) (aE : a.toInt = aZ) (aK : h.1 116 21 = a) (z : Int32) (zZ : Int) (zE : z.toInt = zZ) (zK : h.1 120 4 = z) (i : Int32) (iZ : Int) (iE : i.toInt = iZ) (iK : h.1 116 13 = i) (hy0 : TP h 121 sZ b) (hy1 : 0 ≤ pZ ∧ pZ ≤ sZ ∧ wZ = 0) (hy2 : gZ = x_fr b p0 ∧ kZ = x_kd b p0 ∧ kZ ≠ 4 ∧ 0 ≤ kZ ∧ kZ ≤ 3 ∧ pZ = x_en b p0 ∧ (kZ ≠ 2 ∨ vZ = x_vl b p0 ∧ 0 ≤ vZ ∧ vZ ≤ 99) ∧ p0 ≤ gZ ∧ gZ ≤ pZ ∧ pZ ≤ sZ ∧ (kZ = 0 ∨ gZ < pZ)) (hy3 : RM h T D) : Ct y_Mod_readFresh b_Mod_readFresh 4 (some .int) 2 47 [.ref 116, .int 8, .int 3] h (q_Mod_readFreshX_8 h b T D p0 s sZ p pZ g gZ k kZ v vZ w wZ a aZ z zZ i iZ) := by
  refine ct_ow R_Mod [some (.ref 116), some (.int 8), some (.int 3), none] rfl (by decide) rfl (Nat.le_of_ble_eq_true rfl) ?_
  have f0 : fr S_Mod_readFreshX_8 h h := fr_rf
  have g1 : 0 ≤ sZ ∧ sZ ≤ 160 := inv_at hI sE sK.symm rfl
  have g2 : 0 ≤ pZ ∧ pZ ≤ 160 := inv_at hI pE pK.symm rfl
  have g3 : 0 ≤ gZ ∧ gZ ≤ 160 := inv_at hI gE gK.symm rfl
  refine V_aload_n 0 d_Mod_readFresh_0 rfl rfl ?_
  refine V_iconst 0 d_Mod_readFresh_1 (by decide) ?_
  refine V_iload_n 2 d_Mod_readFresh_2 rfl rfl ?_
  refine N_callVI [.int 0, .int 3] [] cv_Mod_148 sk_116 rfl d_Mod_readFresh_3 rfl (Nat.le_of_ble_eq_true rfl) (by decide) (by decide) (c_Mod_lookedX h hI 0 0 tc_0 3 3 tc_3 g gZ gE gK k kZ kE kK v vZ vE vK w wZ wE wK a aZ aE aK) (fun z4 h5 z4Z z4E p6 => ?_)
  obtain ⟨hI7, fh5, o9, o9Z, o9E, o9K, o10, o10Z, o10E, o10K, p6⟩ := p6
  have f8 : fr S_Mod_readFreshX_8 h h5 := fr_call f0 fh5 rfl
  have R11 : RM h5 T D := RM_fr fh5 rfl hy3
  refine V_istore_n 3 [some (.ref 116), some (.int 8), some (.int 3), some (.int z4)] d_Mod_readFresh_6 rfl (by decide) rfl rfl ?_
  replace p6 := lk_all hy2 hy1.2.2 p6
  replace hy2 := lx_s hy2
  have g12 : x_fr b pZ = x_fr b (x_en b p0) := congrArg (x_fr b) (by (first | decide +kernel | omega))
  have g13 : x_kd b pZ = x_kd b (x_en b p0) := congrArg (x_kd b) (by (first | decide +kernel | omega))
  have g14 : x_en b pZ = x_en b (x_en b p0) := congrArg (x_en b) (by (first | decide +kernel | omega))
  have g15 : x_vl b pZ = x_vl b (x_en b p0) := congrArg (x_vl b) (by (first | decide +kernel | omega))
  refine V_aload_n 0 d_Mod_readFresh_7 rfl rfl ?_
  refine N_getK fa_Mod_102 sk_116 rfl d_Mod_readFresh_8 o9K ?_
  refine V_if_ne 39 o9E d_Mod_readFresh_11 (by decide) (fun c16 => ?_) (fun c16 => ?_)
  ·
    replace p6 := And.intro p6.1 (p6.2.resolve_right (fun q => by (first | decide +kernel | omega)))
    refine V_aload_n 0 d_Mod_readFresh_39 rfl rfl ?_
    refine N_getK fa_Mod_102 sk_116 rfl d_Mod_readFresh_40 o9K ?_
    refine V_if_ne 86 o9E d_Mod_readFresh_43 (by decide) (fun c17 => ?_) (fun c17 => ?_)
    ·
      refine V_aload_n 0 d_Mod_readFresh_86 rfl rfl ?_
      refine N_callVV [] [] cv_Mod_152 sk_116 rfl d_Mod_readFresh_87 rfl (Nat.le_of_ble_eq_true rfl) (by decide) (by decide) (c_Mod_nextX h5 b hI7 s sZ sE (kn_call fh5 sK rfl) p pZ pE (kn_call fh5 pK rfl) g gZ gE (kn_call fh5 gK rfl) k kZ kE (kn_call fh5 kK rfl) v vZ vE (kn_call fh5 vK rfl) o9 o9Z o9E o9K o10 o10Z o10E o10K (TP_fr f8 (fun _ => rfl) hy0) (by (first | decide +kernel | omega))) (fun h19 p20 => ?_)
      obtain ⟨hI21, fh19, o23, o23Z, o23E, o23K, o24, o24Z, o24E, o24K, o25, o25Z, o25E, o25K, o26, o26Z, o26E, o26K, o27, o27Z, o27E, o27K, o28, o28Z, o28E, o28K, p20⟩ := p20
      have f22 : fr S_Mod_readFreshX_8 h h19 := fr_call f8 fh19 rfl
      have R29 : RM h19 T D := RM_fr fh19 rfl R11
      have g30 : 0 ≤ o23Z ∧ o23Z ≤ 160 := inv_at hI21 o23E o23K.symm rfl
      have g31 : 0 ≤ o24Z ∧ o24Z ≤ 160 := inv_at hI21 o24E o24K.symm rfl
      replace p20 := p20.resolve_right (fun q => by (first | decide +kernel | omega))
      refine V_iload_n 3 d_Mod_readFresh_90 rfl rfl ?_
      exact V_iret rfl d_Mod_readFresh_91 ⟨z4, rfl, ⟨hI21, f22, o23, o23Z, o23E, o23K, o24, o24Z, o24E, o24K, o25, o25Z, o25E, o25K, o26, o26Z, o26E, o26K, o27, o27Z, o27E, o27K, o28, o28Z, o28E, o28K, ⟨(Or.inl (⟨by (first | decide +kernel | omega), by (first | decide +kernel | omega), by (first | decide +kernel | omega)⟩)), by (first | decide +kernel | omega), by (first | decide +kernel | omega), by (first | decide +kernel | omega), by rw [z4E]; omega, by rw [z4E]; omega⟩⟩⟩
    ·
      exact absurd c17 (by (first | decide +kernel | omega))
  ·
    replace p6 := And.intro p6.1 (p6.2.resolve_left (fun q => by (first | decide +kernel | omega)))
    refine V_aload_n 0 d_Mod_readFresh_14 rfl rfl ?_
    refine V_aload_n 0 d_Mod_readFresh_15 rfl rfl ?_
    refine V_getR fa_Mod_20 sk_116 rfl d_Mod_readFresh_16 ?_
    refine V_iload_n 1 d_Mod_readFresh_19 rfl rfl ?_
    refine V_iconst 4 d_Mod_readFresh_20 (by decide) ?_
    refine V_isubw d_Mod_readFresh_21 (fun z32 z32e => ?_)
    obtain rfl : z32 = 4 := z32e.trans (by decide)
    refine N_ialdK sk_120 tc_4 (by (first | decide +kernel | omega)) d_Mod_readFresh_22 (kn_call fh5 zK rfl) ?_
    refine V_iload_n 3 d_Mod_readFresh_23 rfl rfl ?_
    refine N_ishr d_Mod_readFresh_24 (fun z34 z34Z z34E z34e => ?_)
    refine V_iconst 1 d_Mod_readFresh_25 (by decide) ?_
    refine N_iand d_Mod_readFresh_26 (fun z35 z35Z z35E z35e => ?_)
    have g36 : z35Z = T 5 z4Z := x_bt_of (RM_had R11 (by decide) (by decide) (kn_call fh5 zK rfl)) (by (first | decide +kernel | omega)) (by (first | decide +kernel | omega)) z4E z35E (by assumption) (by assumption)
    have g37 : T 5 z4Z = T 5 (x_vl b p0) := congrArg (T 5) (by (first | decide +kernel | omega))
    have g38 := x_c4_s (T 5 (x_vl b p0))
    refine V_if_ne 34 z35E d_Mod_readFresh_27 (by decide) (fun c39 => ?_) (fun c39 => ?_)
    ·
      replace g38 := g38.resolve_left (fun q => by (first | decide +kernel | omega))
      refine V_iconst 0 d_Mod_readFresh_34 (by decide) ?_
      refine V_iconst 4 d_Mod_readFresh_35 (by decide) ?_
      refine N_callVV [.int 0, .int 4] [] cv_Mod_144 sk_116 rfl d_Mod_readFresh_36 rfl (Nat.le_of_ble_eq_true rfl) (by decide) (by decide) (c_Mod_needsX h5 hI7 0 0 tc_0 4 4 tc_4 g gZ gE (kn_call fh5 gK rfl) o9 o9Z o9E o9K o10 o10Z o10E o10K) (fun h41 p42 => ?_)
      obtain ⟨hI43, fh41, o45, o45Z, o45E, o45K, o46, o46Z, o46E, o46K, p42⟩ := p42
      have f44 : fr S_Mod_readFreshX_8 h h41 := fr_call f8 fh41 rfl
      have R47 : RM h41 T D := RM_fr fh41 rfl R11
      replace p42 := (p42.resolve_left (by (first | decide +kernel | omega))).2.2
      refine V_aload_n 0 d_Mod_readFresh_39 rfl rfl ?_
      refine N_getK fa_Mod_102 sk_116 rfl d_Mod_readFresh_40 o45K ?_
      refine V_if_ne 86 o45E d_Mod_readFresh_43 (by decide) (fun c48 => ?_) (fun c48 => ?_)
      ·
        refine V_aload_n 0 d_Mod_readFresh_86 rfl rfl ?_
        refine N_callVV [] [] cv_Mod_152 sk_116 rfl d_Mod_readFresh_87 rfl (Nat.le_of_ble_eq_true rfl) (by decide) (by decide) (c_Mod_nextX h41 b hI43 s sZ sE (kn_call fh41 (kn_call fh5 sK rfl) rfl) p pZ pE (kn_call fh41 (kn_call fh5 pK rfl) rfl) g gZ gE (kn_call fh41 (kn_call fh5 gK rfl) rfl) k kZ kE (kn_call fh41 (kn_call fh5 kK rfl) rfl) v vZ vE (kn_call fh41 (kn_call fh5 vK rfl) rfl) o45 o45Z o45E o45K o46 o46Z o46E o46K (TP_fr f44 (fun _ => rfl) hy0) (by (first | decide +kernel | omega))) (fun h50 p51 => ?_)
        obtain ⟨hI52, fh50, o54, o54Z, o54E, o54K, o55, o55Z, o55E, o55K, o56, o56Z, o56E, o56K, o57, o57Z, o57E, o57K, o58, o58Z, o58E, o58K, o59, o59Z, o59E, o59K, p51⟩ := p51
        have f53 : fr S_Mod_readFreshX_8 h h50 := fr_call f44 fh50 rfl
        have R60 : RM h50 T D := RM_fr fh50 rfl R47
        have g61 : 0 ≤ o54Z ∧ o54Z ≤ 160 := inv_at hI52 o54E o54K.symm rfl
        have g62 : 0 ≤ o55Z ∧ o55Z ≤ 160 := inv_at hI52 o55E o55K.symm rfl
        replace p51 := p51.resolve_right (fun q => by (first | decide +kernel | omega))
        refine V_iload_n 3 d_Mod_readFresh_90 rfl rfl ?_
        exact V_iret rfl d_Mod_readFresh_91 ⟨z4, rfl, ⟨hI52, f53, o54, o54Z, o54E, o54K, o55, o55Z, o55E, o55K, o56, o56Z, o56E, o56K, o57, o57Z, o57E, o57K, o58, o58Z, o58E, o58K, o59, o59Z, o59E, o59K, ⟨(Or.inr (Or.inl (⟨by (first | decide +kernel | omega), by (first | decide +kernel | omega), by (first | decide +kernel | omega), by (first | decide +kernel | omega)⟩))), by (first | decide +kernel | omega), by (first | decide +kernel | omega), by (first | decide +kernel | omega), by rw [z4E]; omega, by rw [z4E]; omega⟩⟩⟩
      ·
        exact absurd c48 (by (first | decide +kernel | omega))
    ·
      replace g38 := g38.resolve_right (fun q => by (first | decide +kernel | omega))
      refine V_iconst 1 d_Mod_readFresh_30 (by decide) ?_
      refine V_goto 35 d_Mod_readFresh_31 (by decide) ?_
      refine V_iconst 4 d_Mod_readFresh_35 (by decide) ?_
      refine N_callVV [.int 1, .int 4] [] cv_Mod_144 sk_116 rfl d_Mod_readFresh_36 rfl (Nat.le_of_ble_eq_true rfl) (by decide) (by decide) (c_Mod_needsX h5 hI7 1 1 tc_1 4 4 tc_4 g gZ gE (kn_call fh5 gK rfl) o9 o9Z o9E o9K o10 o10Z o10E o10K) (fun h64 p65 => ?_)
      obtain ⟨hI66, fh64, o68, o68Z, o68E, o68K, o69, o69Z, o69E, o69K, p65⟩ := p65
      have f67 : fr S_Mod_readFreshX_8 h h64 := fr_call f8 fh64 rfl
      have R70 : RM h64 T D := RM_fr fh64 rfl R11
      replace p65 := (p65.resolve_right (by (first | decide +kernel | omega))).2
      refine V_aload_n 0 d_Mod_readFresh_39 rfl rfl ?_
      refine N_getK fa_Mod_102 sk_116 rfl d_Mod_readFresh_40 o68K ?_
      refine V_if_ne 86 o68E d_Mod_readFresh_43 (by decide) (fun c71 => ?_) (fun c71 => ?_)
      ·
        exact absurd c71 (by (first | decide +kernel | omega))
      ·
        refine V_aload_n 0 d_Mod_readFresh_46 rfl rfl ?_
        refine V_getR fa_Mod_20 sk_116 rfl d_Mod_readFresh_47 ?_
        refine V_iload_n 1 d_Mod_readFresh_50 rfl rfl ?_
        refine V_iconst 4 d_Mod_readFresh_51 (by decide) ?_
        refine V_isubw d_Mod_readFresh_52 (fun z72 z72e => ?_)
        obtain rfl : z72 = 4 := z72e.trans (by decide)
        refine V_dup2 d_Mod_readFresh_53 rfl rfl ?_
        refine N_ialdK sk_120 tc_4 (by (first | decide +kernel | omega)) d_Mod_readFresh_54 (kn_call fh64 (kn_call fh5 zK rfl) rfl) ?_
        refine V_iconst 1 d_Mod_readFresh_55 (by decide) ?_
        refine V_iload_n 3 d_Mod_readFresh_56 rfl rfl ?_
        refine N_ishl d_Mod_readFresh_57 (fun z74 z74Z z74E z74e => ?_)
        refine N_ior d_Mod_readFresh_58 (fun z75 z75Z z75E z75e => ?_)
        refine N_iast sk_120 tc_4 (by (first | decide +kernel | omega)) d_Mod_readFresh_59 (fun h76 eh76 => ?_)
        have hI77 : Inv h76 := inv_full hI66 eh76 rfl
        have f78 : fr S_Mod_readFreshX_8 h h76 := fr_put f67 eh76 rfl
        refine V_aload_n 0 d_Mod_readFresh_60 rfl rfl ?_
        refine V_iload_n 1 d_Mod_readFresh_61 rfl rfl ?_
        refine V_bipush 8 d_Mod_readFresh_62 (by decide) ?_
        refine V_icmp_ge 79 tc_8 tc_8 d_Mod_readFresh_64 (by decide) (fun c80 => ?_) (fun c80 => ?_)
        ·
          refine V_aload_n 0 d_Mod_readFresh_79 rfl rfl ?_
          refine N_getK fa_Mod_78 sk_116 rfl d_Mod_readFresh_80 (kn_ne eh76 (kn_call fh64 (kn_call fh5 iK rfl) rfl) (by decide)) ?_
          refine N_putI fp_Mod_78 sk_116 rfl d_Mod_readFresh_83 (fun h81 eh81 => ?_)
          have hI82 : Inv h81 := inv_full hI77 eh81 rfl
          have f83 : fr S_Mod_readFreshX_8 h h81 := fr_put f78 eh81 rfl
          have R84 : RM h81 (x_upT T 5 (x_vl b p0)) D := RM_fresh (l := 5) R70 ⟨by decide, by decide⟩ eh76 (kn_call fh64 (kn_call fh5 zK rfl) rfl) (by (first | decide +kernel | omega)) (z4E.trans (by (first | decide +kernel | omega))) (by assumption) (by assumption) rfl eh81 iE ((congrArg Int32.toInt (kn_call fh64 (kn_call fh5 iK rfl) rfl)).trans iE) (Or.inr ⟨rfl, by (first | decide +kernel | omega)⟩)
          refine V_aload_n 0 d_Mod_readFresh_86 rfl rfl ?_
          refine N_callVV [] [] cv_Mod_152 sk_116 rfl d_Mod_readFresh_87 rfl (Nat.le_of_ble_eq_true rfl) (by decide) (by decide) (c_Mod_nextX h81 b hI82 s sZ sE (kn_nei eh81 (kn_ne eh76 (kn_call fh64 (kn_call fh5 sK rfl) rfl) (by decide)) (by decide)) p pZ pE (kn_nei eh81 (kn_ne eh76 (kn_call fh64 (kn_call fh5 pK rfl) rfl) (by decide)) (by decide)) g gZ gE (kn_nei eh81 (kn_ne eh76 (kn_call fh64 (kn_call fh5 gK rfl) rfl) (by decide)) (by decide)) k kZ kE (kn_nei eh81 (kn_ne eh76 (kn_call fh64 (kn_call fh5 kK rfl) rfl) (by decide)) (by decide)) v vZ vE (kn_nei eh81 (kn_ne eh76 (kn_call fh64 (kn_call fh5 vK rfl) rfl) (by decide)) (by decide)) o68 o68Z o68E (kn_nei eh81 (kn_ne eh76 o68K (by decide)) (by decide)) o69 o69Z o69E (kn_nei eh81 (kn_ne eh76 o69K (by decide)) (by decide)) (TP_fr f83 (fun _ => rfl) hy0) (by (first | decide +kernel | omega))) (fun h86 p87 => ?_)
          obtain ⟨hI88, fh86, o90, o90Z, o90E, o90K, o91, o91Z, o91E, o91K, o92, o92Z, o92E, o92K, o93, o93Z, o93E, o93K, o94, o94Z, o94E, o94K, o95, o95Z, o95E, o95K, p87⟩ := p87
          have f89 : fr S_Mod_readFreshX_8 h h86 := fr_call f83 fh86 rfl
          have R96 : RM h86 (x_upT T 5 (x_vl b p0)) D := RM_fr fh86 rfl R84
          have g97 : 0 ≤ o90Z ∧ o90Z ≤ 160 := inv_at hI88 o90E o90K.symm rfl
          have g98 : 0 ≤ o91Z ∧ o91Z ≤ 160 := inv_at hI88 o91E o91K.symm rfl
          replace p87 := p87.resolve_left (fun q => by (first | decide +kernel | omega))
          refine V_iload_n 3 d_Mod_readFresh_90 rfl rfl ?_
          exact V_iret rfl d_Mod_readFresh_91 ⟨z4, rfl, ⟨hI88, f89, o90, o90Z, o90E, o90K, o91, o91Z, o91E, o91K, o92, o92Z, o92E, o92K, o93, o93Z, o93E, o93K, o94, o94Z, o94E, o94K, o95, o95Z, o95E, o95K, ⟨(Or.inr (Or.inr (⟨by (first | decide +kernel | omega), by (first | decide +kernel | omega), by rw [z4E]; omega, (if q9 : o94Z = 0 then Or.inr ⟨q9, by (first | decide +kernel | omega), by (first | decide +kernel | omega), by (first | decide +kernel | omega), by (first | decide +kernel | omega), by (first | decide +kernel | omega), by (first | decide +kernel | omega), by (first | decide +kernel | omega), by (first | decide +kernel | omega), by (first | decide +kernel | omega), by (first | decide +kernel | omega), by (first | decide +kernel | omega)⟩ else Or.inl ⟨by (first | decide +kernel | omega), by (first | decide +kernel | omega), by (first | decide +kernel | omega)⟩), R96⟩))), by (first | decide +kernel | omega), by (first | decide +kernel | omega), by (first | decide +kernel | omega), by rw [z4E]; omega, by rw [z4E]; omega⟩⟩⟩
        ·
          exact absurd c80 (by decide)
end
section
def S_Mod_readCellOfX_4 : List (Nat × Option Nat) := [(116, some 16), (116, some 17), (116, some 18), (116, some 19), (116, some 20), (116, some 21), (119, none), (120, some 0), (116, some 13)]
abbrev q_Mod_readCellOfX_4 (h : Hp) (b : Int → Int) (T : Nat → Int → Int) (D : Nat → Int) (p0 : Int) (s : Int32) (sZ : Int) (p : Int32) (pZ : Int) (g : Int32) (gZ : Int) (k : Int32) (kZ : Int) (v : Int32) (vZ : Int) (w : Int32) (wZ : Int) (a : Int32) (aZ : Int) (z : Int32) (zZ : Int) (i : Int32) (iZ : Int) : Option Value → Hp → Prop := pVd (fun h' => Inv h' ∧ fr S_Mod_readCellOfX_4 h h' ∧ ∃ (q : Int32) (qZ : Int), q.toInt = qZ ∧ h'.1 116 16 = q ∧ ∃ (f : Int32) (fZ : Int), f.toInt = fZ ∧ h'.1 116 17 = f ∧ ∃ (m : Int32) (mZ : Int), m.toInt = mZ ∧ h'.1 116 18 = m ∧ ∃ (x : Int32) (xZ : Int), x.toInt = xZ ∧ h'.1 116 19 = x ∧ ∃ (u : Int32) (uZ : Int), u.toInt = uZ ∧ h'.1 116 20 = u ∧ ∃ (y : Int32) (yZ : Int), y.toInt = yZ ∧ h'.1 116 21 = y ∧ ((uZ ≠ 0 ∧ x_l1 b T p0 = (uZ, yZ) ∨ uZ = 0 ∧ x_l1 b T p0 = x_sq (x_cS b (x_en b (x_en b p0))) (x_fr b (x_en b (x_en b p0))) (0, x_en b (x_en b (x_en b p0))) ∧ (fZ = x_fr b (x_en b (x_en b p0)) ∧ mZ = x_kd b (x_en b (x_en b p0)) ∧ mZ ≠ 4 ∧ 0 ≤ mZ ∧ mZ ≤ 3 ∧ qZ = x_en b (x_en b (x_en b p0)) ∧ (mZ ≠ 2 ∨ xZ = x_vl b (x_en b (x_en b p0)) ∧ 0 ≤ xZ ∧ xZ ≤ 99) ∧ (x_en b (x_en b p0)) ≤ fZ ∧ fZ ≤ qZ ∧ qZ ≤ sZ ∧ (mZ = 0 ∨ fZ < qZ)) ∧ RM h' (x_upT T 1 (x_vl b p0)) (x_up D (x_vl b p0) (x_vl b (x_en b p0)))) ∧ 0 ≤ qZ ∧ qZ ≤ sZ ∧ 0 ≤ uZ))
set_option maxRecDepth 100000 in
theorem c_Mod_readCellOfX_4 (h : Hp) (b : Int → Int) (T : Nat → Int → Int) (D : Nat → Int) (p0 : Int) (hI : Inv h) (s : Int32) (sZ : Int) (sE : s.toInt = sZ) (sK : h.1 116 15 = s) (p : Int32) (pZ : Int) (pE : p.toInt = pZ) (pK : h.1 116 16 = p) (g : Int32) (gZ : Int) (gE : g.toInt = gZ) (gK : h.1 116 17 = g) (k : Int32) (kZ : Int) (kE : k.toInt = kZ) (kK : h.1 116 18 = k) (v : Int32) (vZ : Int) (vE : v.toInt = vZ) (vK : h.1 116 19 = v) (w : Int32) (wZ : Int) (wE : w.toInt = wZ) (wK : h.1 116 20 = w) (a : Int32) (aZ : Int) (aE : a.toInt = aZ) (aK : h.1 116 21 = a) (z : Int32) (zZ : Int) (zE : z.toInt = zZ) (zK : h.1 120 0 = z) (i : Int32) (iZ : Int) (iE : i.toInt = iZ) (iK : h.1 116 13 = i) (hy0 : TP h 121 sZ b) (hy1 : 0 ≤ pZ ∧ pZ ≤ sZ ∧ wZ = 0) (hy2 : gZ = x_fr b p0 ∧ kZ = x_kd b p0 ∧ kZ ≠ 4 ∧ 0 ≤ kZ ∧ kZ ≤ 3 ∧ pZ = x_en b p0 ∧ (kZ ≠ 2 ∨ vZ = x_vl b p0 ∧ 0 ≤ vZ ∧ vZ ≤ 99) ∧ p0 ≤ gZ ∧ gZ ≤ pZ ∧ pZ ≤ sZ ∧ (kZ = 0 ∨ gZ < pZ)) (hy3 : RM h T D) : Ct y_Mod_readCellOf b_Mod_readCellOf 5 none 3 70 [.ref 116, .int 4] h (q_Mod_readCellOfX_4 h b T D p0 s sZ p pZ g gZ k kZ v vZ w wZ a aZ z zZ i iZ) := by
  refine ct_ow R_Mod [some (.ref 116), some (.int 4), none, none, none] rfl (by decide) rfl (Nat.le_of_ble_eq_true rfl) ?_
  have f0 : fr S_Mod_readCellOfX_4 h h := fr_rf
  have g1 : 0 ≤ sZ ∧ sZ ≤ 160 := inv_at hI sE sK.symm rfl
  have g2 : 0 ≤ pZ ∧ pZ ≤ 160 := inv_at hI pE pK.symm rfl
  have g3 : 0 ≤ gZ ∧ gZ ≤ 160 := inv_at hI gE gK.symm rfl
  refine V_aload_n 0 d_Mod_readCellOf_0 rfl rfl ?_
  refine V_iload_n 1 d_Mod_readCellOf_1 rfl rfl ?_
  refine V_bipush 15 d_Mod_readCellOf_2 (by decide) ?_
  refine N_callVI [.int 4, .int 15] [] cv_Mod_161 sk_116 rfl d_Mod_readCellOf_4 rfl (Nat.le_of_ble_eq_true rfl) (by decide) (by decide) (c_Mod_readFreshX_4 h b T D p0 hI s sZ sE sK p pZ pE pK g gZ gE gK k kZ kE kK v vZ vE vK w wZ wE wK a aZ aE aK z zZ zE zK i iZ iE iK (TP_fr f0 (fun _ => rfl) hy0) (by (first | decide +kernel | omega)) ⟨by (first | decide +kernel | omega), by (first | decide +kernel | omega), by (first | decide +kernel | omega), by (first | decide +kernel | omega), by (first | decide +kernel | omega), by (first | decide +kernel | omega), by (first | decide +kernel | omega), by (first | decide +kernel | omega), by (first | decide +kernel | omega), by (first | decide +kernel | omega), by (first | decide +kernel | omega)⟩ hy3) (fun z4 h5 z4Z z4E p6 => ?_)
  obtain ⟨hI7, fh5, o9, o9Z, o9E, o9K, o10, o10Z, o10E, o10K, o11, o11Z, o11E, o11K, o12, o12Z, o12E, o12K, o13, o13Z, o13E, o13K, o14, o14Z, o14E, o14K, p6⟩ := p6
  have f8 : fr S_Mod_readCellOfX_4 h h5 := fr_call f0 fh5 rfl
  have g15 : 0 ≤ o9Z ∧ o9Z ≤ 160 := inv_at hI7 o9E o9K.symm rfl
  have g16 : 0 ≤ o10Z ∧ o10Z ≤ 160 := inv_at hI7 o10E o10K.symm rfl
  refine V_istore_n 2 [some (.ref 116), some (.int 4), some (.int z4), none, none] d_Mod_readCellOf_7 rfl (by decide) rfl rfl ?_
  rcases (dj4 _ _ _ : o13Z ≠ 0 ∧ x_cN b p0 0 15 ≠ 0 ∨ o13Z ≠ 0 ∧ x_cN b p0 0 15 = 0 ∧ x_c4 (T 1 (x_vl b p0)) ≠ 0 ∨ o13Z ≠ 0 ∧ x_cN b p0 0 15 = 0 ∧ x_c4 (T 1 (x_vl b p0)) = 0 ∨ o13Z = 0) with c17 | c17 | c17 | c17
  ·
    replace p6 := And.intro (p6.1.resolve_right (fun q => by (first | decide +kernel | omega))) p6.2
    have g18 := x_cN_s b p0 0 15
    refine V_iload_n 1 d_Mod_readCellOf_8 rfl rfl ?_
    refine V_iconst 5 d_Mod_readCellOf_9 (by decide) ?_
    refine V_icmp_ne 43 tc_4 tc_5 d_Mod_readCellOf_10 (by decide) (fun c19 => ?_) (fun c19 => ?_)
    ·
      refine V_aload_n 0 d_Mod_readCellOf_43 rfl rfl ?_
      refine V_iload_n 1 d_Mod_readCellOf_44 rfl rfl ?_
      refine V_iconst 4 d_Mod_readCellOf_45 (by decide) ?_
      refine V_icmp_ne 53 tc_4 tc_4 d_Mod_readCellOf_46 (by decide) (fun c20 => ?_) (fun c20 => ?_)
      ·
        exact absurd c20 (by decide)
      ·
        refine V_iconst 1 d_Mod_readCellOf_49 (by decide) ?_
        refine V_goto 54 d_Mod_readCellOf_50 (by decide) ?_
        refine V_iload_n 1 d_Mod_readCellOf_54 rfl rfl ?_
        refine V_iconst 4 d_Mod_readCellOf_55 (by decide) ?_
        refine V_icmp_ne 64 tc_4 tc_4 d_Mod_readCellOf_56 (by decide) (fun c21 => ?_) (fun c21 => ?_)
        ·
          exact absurd c21 (by decide)
        ·
          refine V_bipush 9 d_Mod_readCellOf_59 (by decide) ?_
          refine V_goto 76 d_Mod_readCellOf_61 (by decide) ?_
          refine N_callVI [.int 1, .int 9] [] cv_Mod_158 sk_116 rfl d_Mod_readCellOf_76 rfl (Nat.le_of_ble_eq_true rfl) (by decide) (by decide) (c_Mod_readNumberX h5 b (x_en b p0) hI7 1 1 tc_1 9 9 tc_9 s sZ sE (kn_call fh5 sK rfl) o9 o9Z o9E o9K o10 o10Z o10E o10K o11 o11Z o11E o11K o12 o12Z o12E o12K o13 o13Z o13E o13K o14 o14Z o14E o14K (TP_fr f8 (fun _ => rfl) hy0) (by (first | decide +kernel | omega)) (Or.inl (by (first | decide +kernel | omega)))) (fun z22 h23 z22Z z22E p24 => ?_)
          obtain ⟨hI25, fh23, o27, o27Z, o27E, o27K, o28, o28Z, o28E, o28K, o29, o29Z, o29E, o29K, o30, o30Z, o30E, o30K, o31, o31Z, o31E, o31K, o32, o32Z, o32E, o32K, p24⟩ := p24
          have f26 : fr S_Mod_readCellOfX_4 h h23 := fr_call f8 fh23 rfl
          have g33 : 0 ≤ o27Z ∧ o27Z ≤ 160 := inv_at hI25 o27E o27K.symm rfl
          have g34 : 0 ≤ o28Z ∧ o28Z ≤ 160 := inv_at hI25 o28E o28K.symm rfl
          refine V_istore_n 3 [some (.ref 116), some (.int 4), some (.int z4), some (.int z22), none] d_Mod_readCellOf_79 rfl (by decide) rfl rfl ?_
          refine V_iload_n 1 d_Mod_readCellOf_80 rfl rfl ?_
          refine V_iconst 4 d_Mod_readCellOf_81 (by decide) ?_
          refine V_icmp_ne 89 tc_4 tc_4 d_Mod_readCellOf_82 (by decide) (fun c35 => ?_) (fun c35 => ?_)
          ·
            exact absurd c35 (by decide)
          ·
            refine V_iconst 0 d_Mod_readCellOf_85 (by decide) ?_
            refine V_goto 102 d_Mod_readCellOf_86 (by decide) ?_
            refine V_istore 4 [some (.ref 116), some (.int 4), some (.int z4), some (.int z22), some (.int 0)] d_Mod_readCellOf_102 (by decide) rfl rfl ?_
            refine V_aload_n 0 d_Mod_readCellOf_104 rfl rfl ?_
            refine V_getR fa_Mod_17 sk_116 rfl d_Mod_readCellOf_105 ?_
            refine V_iload d_Mod_readCellOf_108 rfl ?_
            refine V_iload_n 2 d_Mod_readCellOf_110 rfl rfl ?_
            refine V_iadd tc_0 z4E (by (first | decide +kernel | omega)) d_Mod_readCellOf_111 (fun z36 z36e z36E => ?_)
            refine V_aload_n 0 d_Mod_readCellOf_112 rfl rfl ?_
            refine N_getK fa_Mod_102 sk_116 rfl d_Mod_readCellOf_113 o31K ?_
            refine V_if_ne 123 o31E d_Mod_readCellOf_116 (by decide) (fun c37 => ?_) (fun c37 => ?_)
            ·
              refine V_aload_n 0 d_Mod_readCellOf_123 rfl rfl ?_
              refine V_getR fa_Mod_17 sk_116 rfl d_Mod_readCellOf_124 ?_
              refine V_iload d_Mod_readCellOf_127 rfl ?_
              refine V_iload_n 2 d_Mod_readCellOf_129 rfl rfl ?_
              refine V_iadd tc_0 z4E (by (first | decide +kernel | omega)) d_Mod_readCellOf_130 (fun z38 z38e z38E => ?_)
              refine N_iald sk_119 z38E (by (first | decide +kernel | omega)) d_Mod_readCellOf_131 (fun z39 z39Z z39E z39e => ?_)
              refine N_iast sk_119 z36E (by (first | decide +kernel | omega)) d_Mod_readCellOf_132 (fun h40 eh40 => ?_)
              have hI41 : Inv h40 := inv_full hI25 eh40 (st_lo (by (first | decide +kernel | omega)))
              have f42 : fr S_Mod_readCellOfX_4 h h40 := fr_put f26 eh40 rfl
              exact V_vret rfl d_Mod_readCellOf_133 ⟨rfl, ⟨hI41, f42, o27, o27Z, o27E, (kn_ne eh40 o27K (by decide)), o28, o28Z, o28E, (kn_ne eh40 o28K (by decide)), o29, o29Z, o29E, (kn_ne eh40 o29K (by decide)), o30, o30Z, o30E, (kn_ne eh40 o30K (by decide)), o31, o31Z, o31E, (kn_ne eh40 o31K (by decide)), o32, o32Z, o32E, (kn_ne eh40 o32K (by decide)), ⟨Or.inl ⟨by (first | decide +kernel | omega), (show x_l1 b T p0 = (x_cN b p0 0 15, x_fr b p0) from by unfold x_l1; rw [x_sq_y (c := x_cN b p0 0 15) (by (first | decide +kernel | omega))]).trans (pq (by (first | decide +kernel | omega)) (by (first | decide +kernel | omega)))⟩, by (first | decide +kernel | omega), by (first | decide +kernel | omega), by (first | decide +kernel | omega)⟩⟩⟩
            ·
              exact absurd c37 (by (first | decide +kernel | omega))
    ·
      exact absurd c19 (by decide)
  ·
    replace p6 := And.intro ((p6.1.resolve_left (fun q => by (first | decide +kernel | omega))).resolve_right (fun q => by (first | decide +kernel | omega))) p6.2
    have g43 := x_c4_s (T 1 (x_vl b p0))
    refine V_iload_n 1 d_Mod_readCellOf_8 rfl rfl ?_
    refine V_iconst 5 d_Mod_readCellOf_9 (by decide) ?_
    refine V_icmp_ne 43 tc_4 tc_5 d_Mod_readCellOf_10 (by decide) (fun c44 => ?_) (fun c44 => ?_)
    ·
      refine V_aload_n 0 d_Mod_readCellOf_43 rfl rfl ?_
      refine V_iload_n 1 d_Mod_readCellOf_44 rfl rfl ?_
      refine V_iconst 4 d_Mod_readCellOf_45 (by decide) ?_
      refine V_icmp_ne 53 tc_4 tc_4 d_Mod_readCellOf_46 (by decide) (fun c45 => ?_) (fun c45 => ?_)
      ·
        exact absurd c45 (by decide)
      ·
        refine V_iconst 1 d_Mod_readCellOf_49 (by decide) ?_
        refine V_goto 54 d_Mod_readCellOf_50 (by decide) ?_
        refine V_iload_n 1 d_Mod_readCellOf_54 rfl rfl ?_
        refine V_iconst 4 d_Mod_readCellOf_55 (by decide) ?_
        refine V_icmp_ne 64 tc_4 tc_4 d_Mod_readCellOf_56 (by decide) (fun c46 => ?_) (fun c46 => ?_)
        ·
          exact absurd c46 (by decide)
        ·
          refine V_bipush 9 d_Mod_readCellOf_59 (by decide) ?_
          refine V_goto 76 d_Mod_readCellOf_61 (by decide) ?_
          refine N_callVI [.int 1, .int 9] [] cv_Mod_158 sk_116 rfl d_Mod_readCellOf_76 rfl (Nat.le_of_ble_eq_true rfl) (by decide) (by decide) (c_Mod_readNumberX h5 b (x_en b p0) hI7 1 1 tc_1 9 9 tc_9 s sZ sE (kn_call fh5 sK rfl) o9 o9Z o9E o9K o10 o10Z o10E o10K o11 o11Z o11E o11K o12 o12Z o12E o12K o13 o13Z o13E o13K o14 o14Z o14E o14K (TP_fr f8 (fun _ => rfl) hy0) (by (first | decide +kernel | omega)) (Or.inl (by (first | decide +kernel | omega)))) (fun z47 h48 z47Z z47E p49 => ?_)
          obtain ⟨hI50, fh48, o52, o52Z, o52E, o52K, o53, o53Z, o53E, o53K, o54, o54Z, o54E, o54K, o55, o55Z, o55E, o55K, o56, o56Z, o56E, o56K, o57, o57Z, o57E, o57K, p49⟩ := p49
          have f51 : fr S_Mod_readCellOfX_4 h h48 := fr_call f8 fh48 rfl
          have g58 : 0 ≤ o52Z ∧ o52Z ≤ 160 := inv_at hI50 o52E o52K.symm rfl
          have g59 : 0 ≤ o53Z ∧ o53Z ≤ 160 := inv_at hI50 o53E o53K.symm rfl
          refine V_istore_n 3 [some (.ref 116), some (.int 4), some (.int z4), some (.int z47), none] d_Mod_readCellOf_79 rfl (by decide) rfl rfl ?_
          refine V_iload_n 1 d_Mod_readCellOf_80 rfl rfl ?_
          refine V_iconst 4 d_Mod_readCellOf_81 (by decide) ?_
          refine V_icmp_ne 89 tc_4 tc_4 d_Mod_readCellOf_82 (by decide) (fun c60 => ?_) (fun c60 => ?_)
          ·
            exact absurd c60 (by decide)
          ·
            refine V_iconst 0 d_Mod_readCellOf_85 (by decide) ?_
            refine V_goto 102 d_Mod_readCellOf_86 (by decide) ?_
            refine V_istore 4 [some (.ref 116), some (.int 4), some (.int z4), some (.int z47), some (.int 0)] d_Mod_readCellOf_102 (by decide) rfl rfl ?_
            refine V_aload_n 0 d_Mod_readCellOf_104 rfl rfl ?_
            refine V_getR fa_Mod_17 sk_116 rfl d_Mod_readCellOf_105 ?_
            refine V_iload d_Mod_readCellOf_108 rfl ?_
            refine V_iload_n 2 d_Mod_readCellOf_110 rfl rfl ?_
            refine V_iadd tc_0 z4E (by (first | decide +kernel | omega)) d_Mod_readCellOf_111 (fun z61 z61e z61E => ?_)
            refine V_aload_n 0 d_Mod_readCellOf_112 rfl rfl ?_
            refine N_getK fa_Mod_102 sk_116 rfl d_Mod_readCellOf_113 o56K ?_
            refine V_if_ne 123 o56E d_Mod_readCellOf_116 (by decide) (fun c62 => ?_) (fun c62 => ?_)
            ·
              refine V_aload_n 0 d_Mod_readCellOf_123 rfl rfl ?_
              refine V_getR fa_Mod_17 sk_116 rfl d_Mod_readCellOf_124 ?_
              refine V_iload d_Mod_readCellOf_127 rfl ?_
              refine V_iload_n 2 d_Mod_readCellOf_129 rfl rfl ?_
              refine V_iadd tc_0 z4E (by (first | decide +kernel | omega)) d_Mod_readCellOf_130 (fun z63 z63e z63E => ?_)
              refine N_iald sk_119 z63E (by (first | decide +kernel | omega)) d_Mod_readCellOf_131 (fun z64 z64Z z64E z64e => ?_)
              refine N_iast sk_119 z61E (by (first | decide +kernel | omega)) d_Mod_readCellOf_132 (fun h65 eh65 => ?_)
              have hI66 : Inv h65 := inv_full hI50 eh65 (st_lo (by (first | decide +kernel | omega)))
              have f67 : fr S_Mod_readCellOfX_4 h h65 := fr_put f51 eh65 rfl
              exact V_vret rfl d_Mod_readCellOf_133 ⟨rfl, ⟨hI66, f67, o52, o52Z, o52E, (kn_ne eh65 o52K (by decide)), o53, o53Z, o53E, (kn_ne eh65 o53K (by decide)), o54, o54Z, o54E, (kn_ne eh65 o54K (by decide)), o55, o55Z, o55E, (kn_ne eh65 o55K (by decide)), o56, o56Z, o56E, (kn_ne eh65 o56K (by decide)), o57, o57Z, o57E, (kn_ne eh65 o57K (by decide)), ⟨Or.inl ⟨by (first | decide +kernel | omega), (show x_l1 b T p0 = (x_c4 (T 1 (x_vl b p0)), x_fr b p0) from by unfold x_l1; rw [x_sq_n (c := x_cN b p0 0 15) (by (first | decide +kernel | omega)), x_sq_y (c := x_c4 (T 1 (x_vl b p0))) (by (first | decide +kernel | omega))]).trans (pq (by (first | decide +kernel | omega)) (by (first | decide +kernel | omega)))⟩, by (first | decide +kernel | omega), by (first | decide +kernel | omega), by (first | decide +kernel | omega)⟩⟩⟩
            ·
              exact absurd c62 (by (first | decide +kernel | omega))
    ·
      exact absurd c44 (by decide)
  ·
    replace p6 := And.intro (((p6.1.resolve_left (fun q => by (first | decide +kernel | omega))).resolve_left (fun q => by (first | decide +kernel | omega))).2.2.2.1.resolve_right (fun q => by (first | decide +kernel | omega))) p6.2
    have g68 := x_cN_s b (x_en b p0) 1 9
    refine V_iload_n 1 d_Mod_readCellOf_8 rfl rfl ?_
    refine V_iconst 5 d_Mod_readCellOf_9 (by decide) ?_
    refine V_icmp_ne 43 tc_4 tc_5 d_Mod_readCellOf_10 (by decide) (fun c69 => ?_) (fun c69 => ?_)
    ·
      refine V_aload_n 0 d_Mod_readCellOf_43 rfl rfl ?_
      refine V_iload_n 1 d_Mod_readCellOf_44 rfl rfl ?_
      refine V_iconst 4 d_Mod_readCellOf_45 (by decide) ?_
      refine V_icmp_ne 53 tc_4 tc_4 d_Mod_readCellOf_46 (by decide) (fun c70 => ?_) (fun c70 => ?_)
      ·
        exact absurd c70 (by decide)
      ·
        refine V_iconst 1 d_Mod_readCellOf_49 (by decide) ?_
        refine V_goto 54 d_Mod_readCellOf_50 (by decide) ?_
        refine V_iload_n 1 d_Mod_readCellOf_54 rfl rfl ?_
        refine V_iconst 4 d_Mod_readCellOf_55 (by decide) ?_
        refine V_icmp_ne 64 tc_4 tc_4 d_Mod_readCellOf_56 (by decide) (fun c71 => ?_) (fun c71 => ?_)
        ·
          exact absurd c71 (by decide)
        ·
          refine V_bipush 9 d_Mod_readCellOf_59 (by decide) ?_
          refine V_goto 76 d_Mod_readCellOf_61 (by decide) ?_
          refine N_callVI [.int 1, .int 9] [] cv_Mod_158 sk_116 rfl d_Mod_readCellOf_76 rfl (Nat.le_of_ble_eq_true rfl) (by decide) (by decide) (c_Mod_readNumberX h5 b (x_en b p0) hI7 1 1 tc_1 9 9 tc_9 s sZ sE (kn_call fh5 sK rfl) o9 o9Z o9E o9K o10 o10Z o10E o10K o11 o11Z o11E o11K o12 o12Z o12E o12K o13 o13Z o13E o13K o14 o14Z o14E o14K (TP_fr f8 (fun _ => rfl) hy0) (by (first | decide +kernel | omega)) (Or.inl (by (first | decide +kernel | omega)))) (fun z72 h73 z72Z z72E p74 => ?_)
          obtain ⟨hI75, fh73, o77, o77Z, o77E, o77K, o78, o78Z, o78E, o78K, o79, o79Z, o79E, o79K, o80, o80Z, o80E, o80K, o81, o81Z, o81E, o81K, o82, o82Z, o82E, o82K, p74⟩ := p74
          have f76 : fr S_Mod_readCellOfX_4 h h73 := fr_call f8 fh73 rfl
          have g83 : 0 ≤ o77Z ∧ o77Z ≤ 160 := inv_at hI75 o77E o77K.symm rfl
          have g84 : 0 ≤ o78Z ∧ o78Z ≤ 160 := inv_at hI75 o78E o78K.symm rfl
          refine V_istore_n 3 [some (.ref 116), some (.int 4), some (.int z4), some (.int z72), none] d_Mod_readCellOf_79 rfl (by decide) rfl rfl ?_
          refine V_iload_n 1 d_Mod_readCellOf_80 rfl rfl ?_
          refine V_iconst 4 d_Mod_readCellOf_81 (by decide) ?_
          refine V_icmp_ne 89 tc_4 tc_4 d_Mod_readCellOf_82 (by decide) (fun c85 => ?_) (fun c85 => ?_)
          ·
            exact absurd c85 (by decide)
          ·
            refine V_iconst 0 d_Mod_readCellOf_85 (by decide) ?_
            refine V_goto 102 d_Mod_readCellOf_86 (by decide) ?_
            refine V_istore 4 [some (.ref 116), some (.int 4), some (.int z4), some (.int z72), some (.int 0)] d_Mod_readCellOf_102 (by decide) rfl rfl ?_
            refine V_aload_n 0 d_Mod_readCellOf_104 rfl rfl ?_
            refine V_getR fa_Mod_17 sk_116 rfl d_Mod_readCellOf_105 ?_
            refine V_iload d_Mod_readCellOf_108 rfl ?_
            refine V_iload_n 2 d_Mod_readCellOf_110 rfl rfl ?_
            refine V_iadd tc_0 z4E (by (first | decide +kernel | omega)) d_Mod_readCellOf_111 (fun z86 z86e z86E => ?_)
            refine V_aload_n 0 d_Mod_readCellOf_112 rfl rfl ?_
            refine N_getK fa_Mod_102 sk_116 rfl d_Mod_readCellOf_113 o81K ?_
            refine V_if_ne 123 o81E d_Mod_readCellOf_116 (by decide) (fun c87 => ?_) (fun c87 => ?_)
            ·
              refine V_aload_n 0 d_Mod_readCellOf_123 rfl rfl ?_
              refine V_getR fa_Mod_17 sk_116 rfl d_Mod_readCellOf_124 ?_
              refine V_iload d_Mod_readCellOf_127 rfl ?_
              refine V_iload_n 2 d_Mod_readCellOf_129 rfl rfl ?_
              refine V_iadd tc_0 z4E (by (first | decide +kernel | omega)) d_Mod_readCellOf_130 (fun z88 z88e z88E => ?_)
              refine N_iald sk_119 z88E (by (first | decide +kernel | omega)) d_Mod_readCellOf_131 (fun z89 z89Z z89E z89e => ?_)
              refine N_iast sk_119 z86E (by (first | decide +kernel | omega)) d_Mod_readCellOf_132 (fun h90 eh90 => ?_)
              have hI91 : Inv h90 := inv_full hI75 eh90 (st_lo (by (first | decide +kernel | omega)))
              have f92 : fr S_Mod_readCellOfX_4 h h90 := fr_put f76 eh90 rfl
              exact V_vret rfl d_Mod_readCellOf_133 ⟨rfl, ⟨hI91, f92, o77, o77Z, o77E, (kn_ne eh90 o77K (by decide)), o78, o78Z, o78E, (kn_ne eh90 o78K (by decide)), o79, o79Z, o79E, (kn_ne eh90 o79K (by decide)), o80, o80Z, o80E, (kn_ne eh90 o80K (by decide)), o81, o81Z, o81E, (kn_ne eh90 o81K (by decide)), o82, o82Z, o82E, (kn_ne eh90 o82K (by decide)), ⟨Or.inl ⟨by (first | decide +kernel | omega), (show x_l1 b T p0 = (x_cN b (x_en b p0) 1 9, x_fr b (x_en b p0)) from by unfold x_l1; rw [x_sq_n (c := x_cN b p0 0 15) (by (first | decide +kernel | omega)), x_sq_n (c := x_c4 (T 1 (x_vl b p0))) (by (first | decide +kernel | omega)), x_sq_y (c := x_cN b (x_en b p0) 1 9) (by (first | decide +kernel | omega))]).trans (pq (by (first | decide +kernel | omega)) (by (first | decide +kernel | omega)))⟩, by (first | decide +kernel | omega), by (first | decide +kernel | omega), by (first | decide +kernel | omega)⟩⟩⟩
            ·
              exact absurd c87 (by (first | decide +kernel | omega))
    ·
      exact absurd c69 (by decide)
  ·
    obtain ⟨p61, p62, p63, p64, p6R⟩ := ((p6.1.resolve_left (fun q => by (first | decide +kernel | omega))).resolve_left (fun q => by (first | decide +kernel | omega)))
    replace p6 := And.intro (p64.resolve_left (fun q => by (first | decide +kernel | omega))) p6.2
    clear p64
    refine V_iload_n 1 d_Mod_readCellOf_8 rfl rfl ?_
    refine V_iconst 5 d_Mod_readCellOf_9 (by decide) ?_
    refine V_icmp_ne 43 tc_4 tc_5 d_Mod_readCellOf_10 (by decide) (fun c93 => ?_) (fun c93 => ?_)
    ·
      refine V_aload_n 0 d_Mod_readCellOf_43 rfl rfl ?_
      refine V_iload_n 1 d_Mod_readCellOf_44 rfl rfl ?_
      refine V_iconst 4 d_Mod_readCellOf_45 (by decide) ?_
      refine V_icmp_ne 53 tc_4 tc_4 d_Mod_readCellOf_46 (by decide) (fun c94 => ?_) (fun c94 => ?_)
      ·
        exact absurd c94 (by decide)
      ·
        refine V_iconst 1 d_Mod_readCellOf_49 (by decide) ?_
        refine V_goto 54 d_Mod_readCellOf_50 (by decide) ?_
        refine V_iload_n 1 d_Mod_readCellOf_54 rfl rfl ?_
        refine V_iconst 4 d_Mod_readCellOf_55 (by decide) ?_
        refine V_icmp_ne 64 tc_4 tc_4 d_Mod_readCellOf_56 (by decide) (fun c95 => ?_) (fun c95 => ?_)
        ·
          exact absurd c95 (by decide)
        ·
          refine V_bipush 9 d_Mod_readCellOf_59 (by decide) ?_
          refine V_goto 76 d_Mod_readCellOf_61 (by decide) ?_
          refine N_callVI [.int 1, .int 9] [] cv_Mod_158 sk_116 rfl d_Mod_readCellOf_76 rfl (Nat.le_of_ble_eq_true rfl) (by decide) (by decide) (c_Mod_readNumberX h5 b (x_en b p0) hI7 1 1 tc_1 9 9 tc_9 s sZ sE (kn_call fh5 sK rfl) o9 o9Z o9E o9K o10 o10Z o10E o10K o11 o11Z o11E o11K o12 o12Z o12E o12K o13 o13Z o13E o13K o14 o14Z o14E o14K (TP_fr f8 (fun _ => rfl) hy0) (by (first | decide +kernel | omega)) (Or.inr ⟨by (first | decide +kernel | omega), by (first | decide +kernel | omega), by (first | decide +kernel | omega), by (first | decide +kernel | omega), by (first | decide +kernel | omega), by (first | decide +kernel | omega), by (first | decide +kernel | omega), by (first | decide +kernel | omega), by (first | decide +kernel | omega), by (first | decide +kernel | omega), by (first | decide +kernel | omega)⟩)) (fun z96 h97 z96Z z96E p98 => ?_)
          obtain ⟨hI99, fh97, o101, o101Z, o101E, o101K, o102, o102Z, o102E, o102K, o103, o103Z, o103E, o103K, o104, o104Z, o104E, o104K, o105, o105Z, o105E, o105K, o106, o106Z, o106E, o106K, p98⟩ := p98
          have f100 : fr S_Mod_readCellOfX_4 h h97 := fr_call f8 fh97 rfl
          have R107 : RM h97 (x_upT T 1 (x_vl b p0)) D := RM_fr fh97 rfl p6R
          have g108 : 0 ≤ o101Z ∧ o101Z ≤ 160 := inv_at hI99 o101E o101K.symm rfl
          have g109 : 0 ≤ o102Z ∧ o102Z ≤ 160 := inv_at hI99 o102E o102K.symm rfl
          rcases (dj3 _ _ : o105Z ≠ 0 ∧ x_cN b (x_en b p0) 1 9 ≠ 0 ∨ o105Z ≠ 0 ∧ x_cN b (x_en b p0) 1 9 = 0 ∨ o105Z = 0) with c110 | c110 | c110
          ·
            replace p98 := And.intro ((p98.1.resolve_left (fun q => by (first | decide +kernel | omega))).resolve_right (fun q => by (first | decide +kernel | omega))) p98.2
            have g111 := x_cN_s b (x_en b p0) 1 9
            have g112 := x_cS_s b (x_en b (x_en b p0))
            refine V_istore_n 3 [some (.ref 116), some (.int 4), some (.int z4), some (.int z96), none] d_Mod_readCellOf_79 rfl (by decide) rfl rfl ?_
            refine V_iload_n 1 d_Mod_readCellOf_80 rfl rfl ?_
            refine V_iconst 4 d_Mod_readCellOf_81 (by decide) ?_
            refine V_icmp_ne 89 tc_4 tc_4 d_Mod_readCellOf_82 (by decide) (fun c113 => ?_) (fun c113 => ?_)
            ·
              exact absurd c113 (by decide)
            ·
              refine V_iconst 0 d_Mod_readCellOf_85 (by decide) ?_
              refine V_goto 102 d_Mod_readCellOf_86 (by decide) ?_
              refine V_istore 4 [some (.ref 116), some (.int 4), some (.int z4), some (.int z96), some (.int 0)] d_Mod_readCellOf_102 (by decide) rfl rfl ?_
              refine V_aload_n 0 d_Mod_readCellOf_104 rfl rfl ?_
              refine V_getR fa_Mod_17 sk_116 rfl d_Mod_readCellOf_105 ?_
              refine V_iload d_Mod_readCellOf_108 rfl ?_
              refine V_iload_n 2 d_Mod_readCellOf_110 rfl rfl ?_
              refine V_iadd tc_0 z4E (by (first | decide +kernel | omega)) d_Mod_readCellOf_111 (fun z114 z114e z114E => ?_)
              refine V_aload_n 0 d_Mod_readCellOf_112 rfl rfl ?_
              refine N_getK fa_Mod_102 sk_116 rfl d_Mod_readCellOf_113 o105K ?_
              refine V_if_ne 123 o105E d_Mod_readCellOf_116 (by decide) (fun c115 => ?_) (fun c115 => ?_)
              ·
                refine V_aload_n 0 d_Mod_readCellOf_123 rfl rfl ?_
                refine V_getR fa_Mod_17 sk_116 rfl d_Mod_readCellOf_124 ?_
                refine V_iload d_Mod_readCellOf_127 rfl ?_
                refine V_iload_n 2 d_Mod_readCellOf_129 rfl rfl ?_
                refine V_iadd tc_0 z4E (by (first | decide +kernel | omega)) d_Mod_readCellOf_130 (fun z116 z116e z116E => ?_)
                refine N_iald sk_119 z116E (by (first | decide +kernel | omega)) d_Mod_readCellOf_131 (fun z117 z117Z z117E z117e => ?_)
                refine N_iast sk_119 z114E (by (first | decide +kernel | omega)) d_Mod_readCellOf_132 (fun h118 eh118 => ?_)
                have hI119 : Inv h118 := inv_full hI99 eh118 (st_lo (by (first | decide +kernel | omega)))
                have f120 : fr S_Mod_readCellOfX_4 h h118 := fr_put f100 eh118 rfl
                exact V_vret rfl d_Mod_readCellOf_133 ⟨rfl, ⟨hI119, f120, o101, o101Z, o101E, (kn_ne eh118 o101K (by decide)), o102, o102Z, o102E, (kn_ne eh118 o102K (by decide)), o103, o103Z, o103E, (kn_ne eh118 o103K (by decide)), o104, o104Z, o104E, (kn_ne eh118 o104K (by decide)), o105, o105Z, o105E, (kn_ne eh118 o105K (by decide)), o106, o106Z, o106E, (kn_ne eh118 o106K (by decide)), ⟨Or.inl ⟨by (first | decide +kernel | omega), (show x_l1 b T p0 = (x_cN b (x_en b p0) 1 9, x_fr b (x_en b p0)) from by unfold x_l1; rw [x_sq_n (c := x_cN b p0 0 15) (by (first | decide +kernel | omega)), x_sq_n (c := x_c4 (T 1 (x_vl b p0))) (by (first | decide +kernel | omega)), x_sq_y (c := x_cN b (x_en b p0) 1 9) (by (first | decide +kernel | omega))]).trans (pq (by (first | decide +kernel | omega)) (by (first | decide +kernel | omega)))⟩, by (first | decide +kernel | omega), by (first | decide +kernel | omega), by (first | decide +kernel | omega)⟩⟩⟩
              ·
                exact absurd c115 (by (first | decide +kernel | omega))
          ·
            replace p98 := And.intro ((p98.1.resolve_left (fun q => by (first | decide +kernel | omega))).resolve_left (fun q => by (first | decide +kernel | omega))).2.1 (And.intro ((p98.1.resolve_left (fun q => by (first | decide +kernel | omega))).resolve_left (fun q => by (first | decide +kernel | omega))).2.2.1 (And.intro (((p98.1.resolve_left (fun q => by (first | decide +kernel | omega))).resolve_left (fun q => by (first | decide +kernel | omega))).2.2.2.resolve_right (fun q => by (first | decide +kernel | omega))) p98.2))
            have g121 := x_cN_s b (x_en b p0) 1 9
            have g122 := x_cS_s b (x_en b (x_en b p0))
            refine V_istore_n 3 [some (.ref 116), some (.int 4), some (.int z4), some (.int z96), none] d_Mod_readCellOf_79 rfl (by decide) rfl rfl ?_
            refine V_iload_n 1 d_Mod_readCellOf_80 rfl rfl ?_
            refine V_iconst 4 d_Mod_readCellOf_81 (by decide) ?_
            refine V_icmp_ne 89 tc_4 tc_4 d_Mod_readCellOf_82 (by decide) (fun c123 => ?_) (fun c123 => ?_)
            ·
              exact absurd c123 (by decide)
            ·
              refine V_iconst 0 d_Mod_readCellOf_85 (by decide) ?_
              refine V_goto 102 d_Mod_readCellOf_86 (by decide) ?_
              refine V_istore 4 [some (.ref 116), some (.int 4), some (.int z4), some (.int z96), some (.int 0)] d_Mod_readCellOf_102 (by decide) rfl rfl ?_
              refine V_aload_n 0 d_Mod_readCellOf_104 rfl rfl ?_
              refine V_getR fa_Mod_17 sk_116 rfl d_Mod_readCellOf_105 ?_
              refine V_iload d_Mod_readCellOf_108 rfl ?_
              refine V_iload_n 2 d_Mod_readCellOf_110 rfl rfl ?_
              refine V_iadd tc_0 z4E (by (first | decide +kernel | omega)) d_Mod_readCellOf_111 (fun z124 z124e z124E => ?_)
              refine V_aload_n 0 d_Mod_readCellOf_112 rfl rfl ?_
              refine N_getK fa_Mod_102 sk_116 rfl d_Mod_readCellOf_113 o105K ?_
              refine V_if_ne 123 o105E d_Mod_readCellOf_116 (by decide) (fun c125 => ?_) (fun c125 => ?_)
              ·
                refine V_aload_n 0 d_Mod_readCellOf_123 rfl rfl ?_
                refine V_getR fa_Mod_17 sk_116 rfl d_Mod_readCellOf_124 ?_
                refine V_iload d_Mod_readCellOf_127 rfl ?_
                refine V_iload_n 2 d_Mod_readCellOf_129 rfl rfl ?_
                refine V_iadd tc_0 z4E (by (first | decide +kernel | omega)) d_Mod_readCellOf_130 (fun z126 z126e z126E => ?_)
                refine N_iald sk_119 z126E (by (first | decide +kernel | omega)) d_Mod_readCellOf_131 (fun z127 z127Z z127E z127e => ?_)
                refine N_iast sk_119 z124E (by (first | decide +kernel | omega)) d_Mod_readCellOf_132 (fun h128 eh128 => ?_)
                have hI129 : Inv h128 := inv_full hI99 eh128 (st_lo (by (first | decide +kernel | omega)))
                have f130 : fr S_Mod_readCellOfX_4 h h128 := fr_put f100 eh128 rfl
                exact V_vret rfl d_Mod_readCellOf_133 ⟨rfl, ⟨hI129, f130, o101, o101Z, o101E, (kn_ne eh128 o101K (by decide)), o102, o102Z, o102E, (kn_ne eh128 o102K (by decide)), o103, o103Z, o103E, (kn_ne eh128 o103K (by decide)), o104, o104Z, o104E, (kn_ne eh128 o104K (by decide)), o105, o105Z, o105E, (kn_ne eh128 o105K (by decide)), o106, o106Z, o106E, (kn_ne eh128 o106K (by decide)), ⟨Or.inl ⟨by (first | decide +kernel | omega), (show x_l1 b T p0 = (x_cS b (x_en b (x_en b p0)), x_fr b (x_en b (x_en b p0))) from by unfold x_l1; rw [x_sq_n (c := x_cN b p0 0 15) (by (first | decide +kernel | omega)), x_sq_n (c := x_c4 (T 1 (x_vl b p0))) (by (first | decide +kernel | omega)), x_sq_n (c := x_cN b (x_en b p0) 1 9) (by (first | decide +kernel | omega)), x_sq_y (c := x_cS b (x_en b (x_en b p0))) (by (first | decide +kernel | omega))]).trans (pq (by (first | decide +kernel | omega)) (by (first | decide +kernel | omega)))⟩, by (first | decide +kernel | omega), by (first | decide +kernel | omega), by (first | decide +kernel | omega)⟩⟩⟩
              ·
                exact absurd c125 (by (first | decide +kernel | omega))
          ·
            replace p98 := And.intro ((p98.1.resolve_left (fun q => by (first | decide +kernel | omega))).resolve_left (fun q => by (first | decide +kernel | omega))).2.1 (And.intro ((p98.1.resolve_left (fun q => by (first | decide +kernel | omega))).resolve_left (fun q => by (first | decide +kernel | omega))).2.2.1 (And.intro (((p98.1.resolve_left (fun q => by (first | decide +kernel | omega))).resolve_left (fun q => by (first | decide +kernel | omega))).2.2.2.resolve_left (fun q => by (first | decide +kernel | omega))) p98.2))
            refine V_istore_n 3 [some (.ref 116), some (.int 4), some (.int z4), some (.int z96), none] d_Mod_readCellOf_79 rfl (by decide) rfl rfl ?_
            refine V_iload_n 1 d_Mod_readCellOf_80 rfl rfl ?_
            refine V_iconst 4 d_Mod_readCellOf_81 (by decide) ?_
            refine V_icmp_ne 89 tc_4 tc_4 d_Mod_readCellOf_82 (by decide) (fun c131 => ?_) (fun c131 => ?_)
            ·
              exact absurd c131 (by decide)
            ·
              refine V_iconst 0 d_Mod_readCellOf_85 (by decide) ?_
              refine V_goto 102 d_Mod_readCellOf_86 (by decide) ?_
              refine V_istore 4 [some (.ref 116), some (.int 4), some (.int z4), some (.int z96), some (.int 0)] d_Mod_readCellOf_102 (by decide) rfl rfl ?_
              refine V_aload_n 0 d_Mod_readCellOf_104 rfl rfl ?_
              refine V_getR fa_Mod_17 sk_116 rfl d_Mod_readCellOf_105 ?_
              refine V_iload d_Mod_readCellOf_108 rfl ?_
              refine V_iload_n 2 d_Mod_readCellOf_110 rfl rfl ?_
              refine V_iadd tc_0 z4E (by (first | decide +kernel | omega)) d_Mod_readCellOf_111 (fun z132 z132e z132E => ?_)
              refine V_aload_n 0 d_Mod_readCellOf_112 rfl rfl ?_
              refine N_getK fa_Mod_102 sk_116 rfl d_Mod_readCellOf_113 o105K ?_
              refine V_if_ne 123 o105E d_Mod_readCellOf_116 (by decide) (fun c133 => ?_) (fun c133 => ?_)
              ·
                exact absurd c133 (by (first | decide +kernel | omega))
              ·
                refine V_iload_n 3 d_Mod_readCellOf_119 rfl rfl ?_
                refine V_goto 132 d_Mod_readCellOf_120 (by decide) ?_
                refine N_iast sk_119 z132E (by (first | decide +kernel | omega)) d_Mod_readCellOf_132 (fun h134 eh134 => ?_)
                have hI135 : Inv h134 := inv_full hI99 eh134 (st_lo (by (first | decide +kernel | omega)))
                have f136 : fr S_Mod_readCellOfX_4 h h134 := fr_put f100 eh134 rfl
                have R137 : RM h134 (x_upT T 1 (x_vl b p0)) (x_up D (x_vl b p0) (x_vl b (x_en b p0))) := RM_put R107 eh134 (Or.inl ⟨rfl, by (first | decide +kernel | omega), rfl⟩) (z96E.trans (by (first | decide +kernel | omega))) (by (first | decide +kernel | omega))
                exact V_vret rfl d_Mod_readCellOf_133 ⟨rfl, ⟨hI135, f136, o101, o101Z, o101E, (kn_ne eh134 o101K (by decide)), o102, o102Z, o102E, (kn_ne eh134 o102K (by decide)), o103, o103Z, o103E, (kn_ne eh134 o103K (by decide)), o104, o104Z, o104E, (kn_ne eh134 o104K (by decide)), o105, o105Z, o105E, (kn_ne eh134 o105K (by decide)), o106, o106Z, o106E, (kn_ne eh134 o106K (by decide)), ⟨Or.inr ⟨by (first | decide +kernel | omega), by unfold x_l1; rw [x_sq_n (c := x_cN b p0 0 15) (by (first | decide +kernel | omega)), x_sq_n (c := x_c4 (T 1 (x_vl b p0))) (by (first | decide +kernel | omega)), x_sq_n (c := x_cN b (x_en b p0) 1 9) (by (first | decide +kernel | omega))], p98.2.2.1.2, R137⟩, by (first | decide +kernel | omega), by (first | decide +kernel | omega), by (first | decide +kernel | omega)⟩⟩⟩
    ·
      exact absurd c93 (by decide)
def S_Mod_readCellOfX_5 : List (Nat × Option Nat) := [(116, some 16), (116, some 17), (116, some 18), (116, some 19), (116, some 20), (116, some 21), (119, none), (120, some 1), (116, some 13)]
abbrev q_Mod_readCellOfX_5 (h : Hp) (b : Int → Int) (T : Nat → Int → Int) (D : Nat → Int) (p0 : Int) (s : Int32) (sZ : Int) (p : Int32) (pZ : Int) (g : Int32) (gZ : Int) (k : Int32) (kZ : Int) (v : Int32) (vZ : Int) (w : Int32) (wZ : Int) (a : Int32) (aZ : Int) (z : Int32) (zZ : Int) (i : Int32) (iZ : Int) : Option Value → Hp → Prop := pVd (fun h' => Inv h' ∧ fr S_Mod_readCellOfX_5 h h' ∧ ∃ (q : Int32) (qZ : Int), q.toInt = qZ ∧ h'.1 116 16 = q ∧ ∃ (f : Int32) (fZ : Int), f.toInt = fZ ∧ h'.1 116 17 = f ∧ ∃ (m : Int32) (mZ : Int), m.toInt = mZ ∧ h'.1 116 18 = m ∧ ∃ (x : Int32) (xZ : Int), x.toInt = xZ ∧ h'.1 116 19 = x ∧ ∃ (u : Int32) (uZ : Int), u.toInt = uZ ∧ h'.1 116 20 = u ∧ ∃ (y : Int32) (yZ : Int), y.toInt = yZ ∧ h'.1 116 21 = y ∧ ((uZ ≠ 0 ∧ x_l2 b T p0 = (uZ, yZ) ∨ uZ = 0 ∧ x_l2 b T p0 = x_sq (x_cS b (x_en b p0)) (x_fr b (x_en b p0)) (0, x_en b (x_en b p0)) ∧ (fZ = x_fr b (x_en b p0) ∧ mZ = x_kd b (x_en b p0) ∧ mZ ≠ 4 ∧ 0 ≤ mZ ∧ mZ ≤ 3 ∧ qZ = x_en b (x_en b p0) ∧ (mZ ≠ 2 ∨ xZ = x_vl b (x_en b p0) ∧ 0 ≤ xZ ∧ xZ ≤ 99) ∧ (x_en b p0) ≤ fZ ∧ fZ ≤ qZ ∧ qZ ≤ sZ ∧ (mZ = 0 ∨ fZ < qZ)) ∧ RM h' (x_upT T 2 (x_vl b p0)) (x_up D (16 + (x_vl b p0)) 1)) ∧ 0 ≤ qZ ∧ qZ ≤ sZ ∧ 0 ≤ uZ))
set_option maxRecDepth 100000 in
theorem c_Mod_readCellOfX_5 (h : Hp) (b : Int → Int) (T : Nat → Int → Int) (D : Nat → Int) (p0 : Int) (hI : Inv h) (s : Int32) (sZ : Int) (sE : s.toInt = sZ) (sK : h.1 116 15 = s) (p : Int32) (pZ : Int) (pE : p.toInt = pZ) (pK : h.1 116 16 = p) (g : Int32) (gZ : Int) (gE : g.toInt = gZ) (gK : h.1 116 17 = g) (k : Int32) (kZ : Int) (kE : k.toInt = kZ) (kK : h.1 116 18 = k) (v : Int32) (vZ : Int) (vE : v.toInt = vZ) (vK : h.1 116 19 = v) (w : Int32) (wZ : Int) (wE : w.toInt = wZ) (wK : h.1 116 20 = w) (a : Int32) (aZ : Int) (aE : a.toInt = aZ) (aK : h.1 116 21 = a) (z : Int32) (zZ : Int) (zE : z.toInt = zZ) (zK : h.1 120 1 = z) (i : Int32) (iZ : Int) (iE : i.toInt = iZ) (iK : h.1 116 13 = i) (hy0 : TP h 121 sZ b) (hy1 : 0 ≤ pZ ∧ pZ ≤ sZ ∧ wZ = 0) (hy2 : gZ = x_fr b p0 ∧ kZ = x_kd b p0 ∧ kZ ≠ 4 ∧ 0 ≤ kZ ∧ kZ ≤ 3 ∧ pZ = x_en b p0 ∧ (kZ ≠ 2 ∨ vZ = x_vl b p0 ∧ 0 ≤ vZ ∧ vZ ≤ 99) ∧ p0 ≤ gZ ∧ gZ ≤ pZ ∧ pZ ≤ sZ ∧ (kZ = 0 ∨ gZ < pZ)) (hy3 : RM h T D) : Ct y_Mod_readCellOf b_Mod_readCellOf 5 none 3 70 [.ref 116, .int 5] h (q_Mod_readCellOfX_5 h b T D p0 s sZ p pZ g gZ k kZ v vZ w wZ a aZ z zZ i iZ) := by
  refine ct_ow R_Mod [some (.ref 116), some (.int 5), none, none, none] rfl (by decide) rfl (Nat.le_of_ble_eq_true rfl) ?_
  have f0 : fr S_Mod_readCellOfX_5 h h := fr_rf
  have g1 : 0 ≤ sZ ∧ sZ ≤ 160 := inv_at hI sE sK.symm rfl
  have g2 : 0 ≤ pZ ∧ pZ ≤ 160 := inv_at hI pE pK.symm rfl
  have g3 : 0 ≤ gZ ∧ gZ ≤ 160 := inv_at hI gE gK.symm rfl
  refine V_aload_n 0 d_Mod_readCellOf_0 rfl rfl ?_
  refine V_iload_n 1 d_Mod_readCellOf_1 rfl rfl ?_
  refine V_bipush 15 d_Mod_readCellOf_2 (by decide) ?_
  refine N_callVI [.int 5, .int 15] [] cv_Mod_161 sk_116 rfl d_Mod_readCellOf_4 rfl (Nat.le_of_ble_eq_true rfl) (by decide) (by decide) (c_Mod_readFreshX_5 h b T D p0 hI s sZ sE sK p pZ pE pK g gZ gE gK k kZ kE kK v vZ vE vK w wZ wE wK a aZ aE aK z zZ zE zK i iZ iE iK (TP_fr f0 (fun _ => rfl) hy0) (by (first | decide +kernel | omega)) ⟨by (first | decide +kernel | omega), by (first | decide +kernel | omega), by (first | decide +kernel | omega), by (first | decide +kernel | omega), by (first | decide +kernel | omega), by (first | decide +kernel | omega), by (first | decide +kernel | omega), by (first | decide +kernel | omega), by (first | decide +kernel | omega), by (first | decide +kernel | omega), by (first | decide +kernel | omega)⟩ hy3) (fun z4 h5 z4Z z4E p6 => ?_)
  obtain ⟨hI7, fh5, o9, o9Z, o9E, o9K, o10, o10Z, o10E, o10K, o11, o11Z, o11E, o11K, o12, o12Z, o12E, o12K, o13, o13Z, o13E, o13K, o14, o14Z, o14E, o14K, p6⟩ := p6
  have f8 : fr S_Mod_readCellOfX_5 h h5 := fr_call f0 fh5 rfl
  have g15 : 0 ≤ o9Z ∧ o9Z ≤ 160 := inv_at hI7 o9E o9K.symm rfl
  have g16 : 0 ≤ o10Z ∧ o10Z ≤ 160 := inv_at hI7 o10E o10K.symm rfl
  refine V_istore_n 2 [some (.ref 116), some (.int 5), some (.int z4), none, none] d_Mod_readCellOf_7 rfl (by decide) rfl rfl ?_
  rcases (dj4 _ _ _ : o13Z ≠ 0 ∧ x_cN b p0 0 15 ≠ 0 ∨ o13Z ≠ 0 ∧ x_cN b p0 0 15 = 0 ∧ x_c4 (T 2 (x_vl b p0)) ≠ 0 ∨ o13Z ≠ 0 ∧ x_cN b p0 0 15 = 0 ∧ x_c4 (T 2 (x_vl b p0)) = 0 ∨ o13Z = 0) with c17 | c17 | c17 | c17
  ·
    replace p6 := And.intro (p6.1.resolve_right (fun q => by (first | decide +kernel | omega))) p6.2
    have g18 := x_cN_s b p0 0 15
    refine V_iload_n 1 d_Mod_readCellOf_8 rfl rfl ?_
    refine V_iconst 5 d_Mod_readCellOf_9 (by decide) ?_
    refine V_icmp_ne 43 tc_5 tc_5 d_Mod_readCellOf_10 (by decide) (fun c19 => ?_) (fun c19 => ?_)
    ·
      exact absurd c19 (by decide)
    ·
      refine V_aload_n 0 d_Mod_readCellOf_13 rfl rfl ?_
      refine V_getR fa_Mod_17 sk_116 rfl d_Mod_readCellOf_14 ?_
      refine V_bipush 16 d_Mod_readCellOf_17 (by decide) ?_
      refine V_iload_n 2 d_Mod_readCellOf_19 rfl rfl ?_
      refine V_iadd tc_16 z4E (by (first | decide +kernel | omega)) d_Mod_readCellOf_20 (fun z20 z20e z20E => ?_)
      refine V_aload_n 0 d_Mod_readCellOf_21 rfl rfl ?_
      refine N_getK fa_Mod_102 sk_116 rfl d_Mod_readCellOf_22 o13K ?_
      refine V_if_ne 32 o13E d_Mod_readCellOf_25 (by decide) (fun c21 => ?_) (fun c21 => ?_)
      ·
        refine V_aload_n 0 d_Mod_readCellOf_32 rfl rfl ?_
        refine V_getR fa_Mod_17 sk_116 rfl d_Mod_readCellOf_33 ?_
        refine V_bipush 16 d_Mod_readCellOf_36 (by decide) ?_
        refine V_iload_n 2 d_Mod_readCellOf_38 rfl rfl ?_
        refine V_iadd tc_16 z4E (by (first | decide +kernel | omega)) d_Mod_readCellOf_39 (fun z22 z22e z22E => ?_)
        refine N_iald sk_119 z22E (by (first | decide +kernel | omega)) d_Mod_readCellOf_40 (fun z23 z23Z z23E z23e => ?_)
        refine N_iast sk_119 z20E (by (first | decide +kernel | omega)) d_Mod_readCellOf_41 (fun h24 eh24 => ?_)
        have hI25 : Inv h24 := inv_full hI7 eh24 (st_lo (by (first | decide +kernel | omega)))
        have f26 : fr S_Mod_readCellOfX_5 h h24 := fr_put f8 eh24 rfl
        exact V_vret rfl d_Mod_readCellOf_42 ⟨rfl, ⟨hI25, f26, o9, o9Z, o9E, (kn_ne eh24 o9K (by decide)), o10, o10Z, o10E, (kn_ne eh24 o10K (by decide)), o11, o11Z, o11E, (kn_ne eh24 o11K (by decide)), o12, o12Z, o12E, (kn_ne eh24 o12K (by decide)), o13, o13Z, o13E, (kn_ne eh24 o13K (by decide)), o14, o14Z, o14E, (kn_ne eh24 o14K (by decide)), ⟨Or.inl ⟨by (first | decide +kernel | omega), (show x_l2 b T p0 = (x_cN b p0 0 15, x_fr b p0) from by unfold x_l2; rw [x_sq_y (c := x_cN b p0 0 15) (by (first | decide +kernel | omega))]).trans (pq (by (first | decide +kernel | omega)) (by (first | decide +kernel | omega)))⟩, by (first | decide +kernel | omega), by (first | decide +kernel | omega), by (first | decide +kernel | omega)⟩⟩⟩
      ·
        exact absurd c21 (by (first | decide +kernel | omega))
  ·
    replace p6 := And.intro ((p6.1.resolve_left (fun q => by (first | decide +kernel | omega))).resolve_right (fun q => by (first | decide +kernel | omega))) p6.2
    have g27 := x_c4_s (T 2 (x_vl b p0))
    refine V_iload_n 1 d_Mod_readCellOf_8 rfl rfl ?_
    refine V_iconst 5 d_Mod_readCellOf_9 (by decide) ?_
    refine V_icmp_ne 43 tc_5 tc_5 d_Mod_readCellOf_10 (by decide) (fun c28 => ?_) (fun c28 => ?_)
    ·
      exact absurd c28 (by decide)
    ·
      refine V_aload_n 0 d_Mod_readCellOf_13 rfl rfl ?_
      refine V_getR fa_Mod_17 sk_116 rfl d_Mod_readCellOf_14 ?_
      refine V_bipush 16 d_Mod_readCellOf_17 (by decide) ?_
      refine V_iload_n 2 d_Mod_readCellOf_19 rfl rfl ?_
      refine V_iadd tc_16 z4E (by (first | decide +kernel | omega)) d_Mod_readCellOf_20 (fun z29 z29e z29E => ?_)
      refine V_aload_n 0 d_Mod_readCellOf_21 rfl rfl ?_
      refine N_getK fa_Mod_102 sk_116 rfl d_Mod_readCellOf_22 o13K ?_
      refine V_if_ne 32 o13E d_Mod_readCellOf_25 (by decide) (fun c30 => ?_) (fun c30 => ?_)
      ·
        refine V_aload_n 0 d_Mod_readCellOf_32 rfl rfl ?_
        refine V_getR fa_Mod_17 sk_116 rfl d_Mod_readCellOf_33 ?_
        refine V_bipush 16 d_Mod_readCellOf_36 (by decide) ?_
        refine V_iload_n 2 d_Mod_readCellOf_38 rfl rfl ?_
        refine V_iadd tc_16 z4E (by (first | decide +kernel | omega)) d_Mod_readCellOf_39 (fun z31 z31e z31E => ?_)
        refine N_iald sk_119 z31E (by (first | decide +kernel | omega)) d_Mod_readCellOf_40 (fun z32 z32Z z32E z32e => ?_)
        refine N_iast sk_119 z29E (by (first | decide +kernel | omega)) d_Mod_readCellOf_41 (fun h33 eh33 => ?_)
        have hI34 : Inv h33 := inv_full hI7 eh33 (st_lo (by (first | decide +kernel | omega)))
        have f35 : fr S_Mod_readCellOfX_5 h h33 := fr_put f8 eh33 rfl
        exact V_vret rfl d_Mod_readCellOf_42 ⟨rfl, ⟨hI34, f35, o9, o9Z, o9E, (kn_ne eh33 o9K (by decide)), o10, o10Z, o10E, (kn_ne eh33 o10K (by decide)), o11, o11Z, o11E, (kn_ne eh33 o11K (by decide)), o12, o12Z, o12E, (kn_ne eh33 o12K (by decide)), o13, o13Z, o13E, (kn_ne eh33 o13K (by decide)), o14, o14Z, o14E, (kn_ne eh33 o14K (by decide)), ⟨Or.inl ⟨by (first | decide +kernel | omega), (show x_l2 b T p0 = (x_c4 (T 2 (x_vl b p0)), x_fr b p0) from by unfold x_l2; rw [x_sq_n (c := x_cN b p0 0 15) (by (first | decide +kernel | omega)), x_sq_y (c := x_c4 (T 2 (x_vl b p0))) (by (first | decide +kernel | omega))]).trans (pq (by (first | decide +kernel | omega)) (by (first | decide +kernel | omega)))⟩, by (first | decide +kernel | omega), by (first | decide +kernel | omega), by (first | decide +kernel | omega)⟩⟩⟩
      ·
        exact absurd c30 (by (first | decide +kernel | omega))
  ·
    replace p6 := And.intro (((p6.1.resolve_left (fun q => by (first | decide +kernel | omega))).resolve_left (fun q => by (first | decide +kernel | omega))).2.2.2.1.resolve_right (fun q => by (first | decide +kernel | omega))) p6.2
    have g36 := x_cS_s b (x_en b p0)
    refine V_iload_n 1 d_Mod_readCellOf_8 rfl rfl ?_
    refine V_iconst 5 d_Mod_readCellOf_9 (by decide) ?_
    refine V_icmp_ne 43 tc_5 tc_5 d_Mod_readCellOf_10 (by decide) (fun c37 => ?_) (fun c37 => ?_)
    ·
      exact absurd c37 (by decide)
    ·
      refine V_aload_n 0 d_Mod_readCellOf_13 rfl rfl ?_
      refine V_getR fa_Mod_17 sk_116 rfl d_Mod_readCellOf_14 ?_
      refine V_bipush 16 d_Mod_readCellOf_17 (by decide) ?_
      refine V_iload_n 2 d_Mod_readCellOf_19 rfl rfl ?_
      refine V_iadd tc_16 z4E (by (first | decide +kernel | omega)) d_Mod_readCellOf_20 (fun z38 z38e z38E => ?_)
      refine V_aload_n 0 d_Mod_readCellOf_21 rfl rfl ?_
      refine N_getK fa_Mod_102 sk_116 rfl d_Mod_readCellOf_22 o13K ?_
      refine V_if_ne 32 o13E d_Mod_readCellOf_25 (by decide) (fun c39 => ?_) (fun c39 => ?_)
      ·
        refine V_aload_n 0 d_Mod_readCellOf_32 rfl rfl ?_
        refine V_getR fa_Mod_17 sk_116 rfl d_Mod_readCellOf_33 ?_
        refine V_bipush 16 d_Mod_readCellOf_36 (by decide) ?_
        refine V_iload_n 2 d_Mod_readCellOf_38 rfl rfl ?_
        refine V_iadd tc_16 z4E (by (first | decide +kernel | omega)) d_Mod_readCellOf_39 (fun z40 z40e z40E => ?_)
        refine N_iald sk_119 z40E (by (first | decide +kernel | omega)) d_Mod_readCellOf_40 (fun z41 z41Z z41E z41e => ?_)
        refine N_iast sk_119 z38E (by (first | decide +kernel | omega)) d_Mod_readCellOf_41 (fun h42 eh42 => ?_)
        have hI43 : Inv h42 := inv_full hI7 eh42 (st_lo (by (first | decide +kernel | omega)))
        have f44 : fr S_Mod_readCellOfX_5 h h42 := fr_put f8 eh42 rfl
        exact V_vret rfl d_Mod_readCellOf_42 ⟨rfl, ⟨hI43, f44, o9, o9Z, o9E, (kn_ne eh42 o9K (by decide)), o10, o10Z, o10E, (kn_ne eh42 o10K (by decide)), o11, o11Z, o11E, (kn_ne eh42 o11K (by decide)), o12, o12Z, o12E, (kn_ne eh42 o12K (by decide)), o13, o13Z, o13E, (kn_ne eh42 o13K (by decide)), o14, o14Z, o14E, (kn_ne eh42 o14K (by decide)), ⟨Or.inl ⟨by (first | decide +kernel | omega), (show x_l2 b T p0 = (x_cS b (x_en b p0), x_fr b (x_en b p0)) from by unfold x_l2; rw [x_sq_n (c := x_cN b p0 0 15) (by (first | decide +kernel | omega)), x_sq_n (c := x_c4 (T 2 (x_vl b p0))) (by (first | decide +kernel | omega)), x_sq_y (c := x_cS b (x_en b p0)) (by (first | decide +kernel | omega))]).trans (pq (by (first | decide +kernel | omega)) (by (first | decide +kernel | omega)))⟩, by (first | decide +kernel | omega), by (first | decide +kernel | omega), by (first | decide +kernel | omega)⟩⟩⟩
      ·
        exact absurd c39 (by (first | decide +kernel | omega))
  ·
    obtain ⟨p61, p62, p63, p64, p6R⟩ := ((p6.1.resolve_left (fun q => by (first | decide +kernel | omega))).resolve_left (fun q => by (first | decide +kernel | omega)))
    replace p6 := And.intro (p64.resolve_left (fun q => by (first | decide +kernel | omega))) p6.2
    clear p64
    refine V_iload_n 1 d_Mod_readCellOf_8 rfl rfl ?_
    refine V_iconst 5 d_Mod_readCellOf_9 (by decide) ?_
    refine V_icmp_ne 43 tc_5 tc_5 d_Mod_readCellOf_10 (by decide) (fun c45 => ?_) (fun c45 => ?_)
    ·
      exact absurd c45 (by decide)
    ·
      refine V_aload_n 0 d_Mod_readCellOf_13 rfl rfl ?_
      refine V_getR fa_Mod_17 sk_116 rfl d_Mod_readCellOf_14 ?_
      refine V_bipush 16 d_Mod_readCellOf_17 (by decide) ?_
      refine V_iload_n 2 d_Mod_readCellOf_19 rfl rfl ?_
      refine V_iadd tc_16 z4E (by (first | decide +kernel | omega)) d_Mod_readCellOf_20 (fun z46 z46e z46E => ?_)
      refine V_aload_n 0 d_Mod_readCellOf_21 rfl rfl ?_
      refine N_getK fa_Mod_102 sk_116 rfl d_Mod_readCellOf_22 o13K ?_
      refine V_if_ne 32 o13E d_Mod_readCellOf_25 (by decide) (fun c47 => ?_) (fun c47 => ?_)
      ·
        exact absurd c47 (by (first | decide +kernel | omega))
      ·
        refine V_iconst 1 d_Mod_readCellOf_28 (by decide) ?_
        refine V_goto 41 d_Mod_readCellOf_29 (by decide) ?_
        refine N_iast sk_119 z46E (by (first | decide +kernel | omega)) d_Mod_readCellOf_41 (fun h48 eh48 => ?_)
        have hI49 : Inv h48 := inv_full hI7 eh48 (st_lo (by (first | decide +kernel | omega)))
        have f50 : fr S_Mod_readCellOfX_5 h h48 := fr_put f8 eh48 rfl
        have R51 : RM h48 (x_upT T 2 (x_vl b p0)) (x_up D (16 + (x_vl b p0)) 1) := RM_put p6R eh48 (Or.inl ⟨rfl, by (first | decide +kernel | omega), rfl⟩) (tc_1.trans (by (first | decide +kernel | omega))) (by (first | decide +kernel | omega))
        exact V_vret rfl d_Mod_readCellOf_42 ⟨rfl, ⟨hI49, f50, o9, o9Z, o9E, (kn_ne eh48 o9K (by decide)), o10, o10Z, o10E, (kn_ne eh48 o10K (by decide)), o11, o11Z, o11E, (kn_ne eh48 o11K (by decide)), o12, o12Z, o12E, (kn_ne eh48 o12K (by decide)), o13, o13Z, o13E, (kn_ne eh48 o13K (by decide)), o14, o14Z, o14E, (kn_ne eh48 o14K (by decide)), ⟨Or.inr ⟨by (first | decide +kernel | omega), by unfold x_l2; rw [x_sq_n (c := x_cN b p0 0 15) (by (first | decide +kernel | omega)), x_sq_n (c := x_c4 (T 2 (x_vl b p0))) (by (first | decide +kernel | omega))], p6.1.2, R51⟩, by (first | decide +kernel | omega), by (first | decide +kernel | omega), by (first | decide +kernel | omega)⟩⟩⟩
def S_Mod_readCellOfX_6 : List (Nat × Option Nat) := [(116, some 16), (116, some 17), (116, some 18), (116, some 19), (116, some 20), (116, some 21), (119, none), (120, some 2), (116, some 13)]
abbrev q_Mod_readCellOfX_6 (h : Hp) (b : Int → Int) (T : Nat → Int → Int) (D : Nat → Int) (p0 : Int) (s : Int32) (sZ : Int) (p : Int32) (pZ : Int) (g : Int32) (gZ : Int) (k : Int32) (kZ : Int) (v : Int32) (vZ : Int) (w : Int32) (wZ : Int) (a : Int32) (aZ : Int) (z : Int32) (zZ : Int) (i : Int32) (iZ : Int) : Option Value → Hp → Prop := pVd (fun h' => Inv h' ∧ fr S_Mod_readCellOfX_6 h h' ∧ ∃ (q : Int32) (qZ : Int), q.toInt = qZ ∧ h'.1 116 16 = q ∧ ∃ (f : Int32) (fZ : Int), f.toInt = fZ ∧ h'.1 116 17 = f ∧ ∃ (m : Int32) (mZ : Int), m.toInt = mZ ∧ h'.1 116 18 = m ∧ ∃ (x : Int32) (xZ : Int), x.toInt = xZ ∧ h'.1 116 19 = x ∧ ∃ (u : Int32) (uZ : Int), u.toInt = uZ ∧ h'.1 116 20 = u ∧ ∃ (y : Int32) (yZ : Int), y.toInt = yZ ∧ h'.1 116 21 = y ∧ ((uZ ≠ 0 ∧ x_l3 b T p0 = (uZ, yZ) ∨ uZ = 0 ∧ x_l3 b T p0 = x_sq (x_cS b (x_en b (x_en b p0))) (x_fr b (x_en b (x_en b p0))) (0, x_en b (x_en b (x_en b p0))) ∧ (fZ = x_fr b (x_en b (x_en b p0)) ∧ mZ = x_kd b (x_en b (x_en b p0)) ∧ mZ ≠ 4 ∧ 0 ≤ mZ ∧ mZ ≤ 3 ∧ qZ = x_en b (x_en b (x_en b p0)) ∧ (mZ ≠ 2 ∨ xZ = x_vl b (x_en b (x_en b p0)) ∧ 0 ≤ xZ ∧ xZ ≤ 99) ∧ (x_en b (x_en b p0)) ≤ fZ ∧ fZ ≤ qZ ∧ qZ ≤ sZ ∧ (mZ = 0 ∨ fZ < qZ)) ∧ RM h' (x_upT T 3 (x_vl b p0)) (x_up D (32 + (x_vl b p0)) (x_vl b (x_en b p0)))) ∧ 0 ≤ qZ ∧ qZ ≤ sZ ∧ 0 ≤ uZ))
set_option maxRecDepth 100000 in
theorem c_Mod_readCellOfX_6 (h : Hp) (b : Int → Int) (T : Nat → Int → Int) (D : Nat → Int) (p0 : Int) (hI : Inv h) (s : Int32) (sZ : Int) (sE : s.toInt = sZ) (sK : h.1 116 15 = s) (p : Int32) (pZ : Int) (pE : p.toInt = pZ) (pK : h.1 116 16 = p) (g : Int32) (gZ : Int) (gE : g.toInt = gZ) (gK : h.1 116 17 = g) (k : Int32) (kZ : Int) (kE : k.toInt = kZ) (kK : h.1 116 18 = k) (v : Int32) (vZ : Int) (vE : v.toInt = vZ) (vK : h.1 116 19 = v) (w : Int32) (wZ : Int) (wE : w.toInt = wZ) (wK : h.1 116 20 = w) (a : Int32) (aZ : Int) (aE : a.toInt = aZ) (aK : h.1 116 21 = a) (z : Int32) (zZ : Int) (zE : z.toInt = zZ) (zK : h.1 120 2 = z) (i : Int32) (iZ : Int) (iE : i.toInt = iZ) (iK : h.1 116 13 = i) (hy0 : TP h 121 sZ b) (hy1 : 0 ≤ pZ ∧ pZ ≤ sZ ∧ wZ = 0) (hy2 : gZ = x_fr b p0 ∧ kZ = x_kd b p0 ∧ kZ ≠ 4 ∧ 0 ≤ kZ ∧ kZ ≤ 3 ∧ pZ = x_en b p0 ∧ (kZ ≠ 2 ∨ vZ = x_vl b p0 ∧ 0 ≤ vZ ∧ vZ ≤ 99) ∧ p0 ≤ gZ ∧ gZ ≤ pZ ∧ pZ ≤ sZ ∧ (kZ = 0 ∨ gZ < pZ)) (hy3 : RM h T D) : Ct y_Mod_readCellOf b_Mod_readCellOf 5 none 3 70 [.ref 116, .int 6] h (q_Mod_readCellOfX_6 h b T D p0 s sZ p pZ g gZ k kZ v vZ w wZ a aZ z zZ i iZ) := by
  refine ct_ow R_Mod [some (.ref 116), some (.int 6), none, none, none] rfl (by decide) rfl (Nat.le_of_ble_eq_true rfl) ?_
  have f0 : fr S_Mod_readCellOfX_6 h h := fr_rf
  have g1 : 0 ≤ sZ ∧ sZ ≤ 160 := inv_at hI sE sK.symm rfl
  have g2 : 0 ≤ pZ ∧ pZ ≤ 160 := inv_at hI pE pK.symm rfl
  have g3 : 0 ≤ gZ ∧ gZ ≤ 160 := inv_at hI gE gK.symm rfl
  refine V_aload_n 0 d_Mod_readCellOf_0 rfl rfl ?_
  refine V_iload_n 1 d_Mod_readCellOf_1 rfl rfl ?_
  refine V_bipush 15 d_Mod_readCellOf_2 (by decide) ?_
  refine N_callVI [.int 6, .int 15] [] cv_Mod_161 sk_116 rfl d_Mod_readCellOf_4 rfl (Nat.le_of_ble_eq_true rfl) (by decide) (by decide) (c_Mod_readFreshX_6 h b T D p0 hI s sZ sE sK p pZ pE pK g gZ gE gK k kZ kE kK v vZ vE vK w wZ wE wK a aZ aE aK z zZ zE zK i iZ iE iK (TP_fr f0 (fun _ => rfl) hy0) (by (first | decide +kernel | omega)) ⟨by (first | decide +kernel | omega), by (first | decide +kernel | omega), by (first | decide +kernel | omega), by (first | decide +kernel | omega), by (first | decide +kernel | omega), by (first | decide +kernel | omega), by (first | decide +kernel | omega), by (first | decide +kernel | omega), by (first | decide +kernel | omega), by (first | decide +kernel | omega), by (first | decide +kernel | omega)⟩ hy3) (fun z4 h5 z4Z z4E p6 => ?_)
  obtain ⟨hI7, fh5, o9, o9Z, o9E, o9K, o10, o10Z, o10E, o10K, o11, o11Z, o11E, o11K, o12, o12Z, o12E, o12K, o13, o13Z, o13E, o13K, o14, o14Z, o14E, o14K, p6⟩ := p6
  have f8 : fr S_Mod_readCellOfX_6 h h5 := fr_call f0 fh5 rfl
  have g15 : 0 ≤ o9Z ∧ o9Z ≤ 160 := inv_at hI7 o9E o9K.symm rfl
  have g16 : 0 ≤ o10Z ∧ o10Z ≤ 160 := inv_at hI7 o10E o10K.symm rfl
  refine V_istore_n 2 [some (.ref 116), some (.int 6), some (.int z4), none, none] d_Mod_readCellOf_7 rfl (by decide) rfl rfl ?_
  rcases (dj4 _ _ _ : o13Z ≠ 0 ∧ x_cN b p0 0 15 ≠ 0 ∨ o13Z ≠ 0 ∧ x_cN b p0 0 15 = 0 ∧ x_c4 (T 3 (x_vl b p0)) ≠ 0 ∨ o13Z ≠ 0 ∧ x_cN b p0 0 15 = 0 ∧ x_c4 (T 3 (x_vl b p0)) = 0 ∨ o13Z = 0) with c17 | c17 | c17 | c17
  ·
    replace p6 := And.intro (p6.1.resolve_right (fun q => by (first | decide +kernel | omega))) p6.2
    have g18 := x_cN_s b p0 0 15
    refine V_iload_n 1 d_Mod_readCellOf_8 rfl rfl ?_
    refine V_iconst 5 d_Mod_readCellOf_9 (by decide) ?_
    refine V_icmp_ne 43 tc_6 tc_5 d_Mod_readCellOf_10 (by decide) (fun c19 => ?_) (fun c19 => ?_)
    ·
      refine V_aload_n 0 d_Mod_readCellOf_43 rfl rfl ?_
      refine V_iload_n 1 d_Mod_readCellOf_44 rfl rfl ?_
      refine V_iconst 4 d_Mod_readCellOf_45 (by decide) ?_
      refine V_icmp_ne 53 tc_6 tc_4 d_Mod_readCellOf_46 (by decide) (fun c20 => ?_) (fun c20 => ?_)
      ·
        refine V_iconst 0 d_Mod_readCellOf_53 (by decide) ?_
        refine V_iload_n 1 d_Mod_readCellOf_54 rfl rfl ?_
        refine V_iconst 4 d_Mod_readCellOf_55 (by decide) ?_
        refine V_icmp_ne 64 tc_6 tc_4 d_Mod_readCellOf_56 (by decide) (fun c21 => ?_) (fun c21 => ?_)
        ·
          refine V_iload_n 1 d_Mod_readCellOf_64 rfl rfl ?_
          refine V_bipush 6 d_Mod_readCellOf_65 (by decide) ?_
          refine V_icmp_ne 75 tc_6 tc_6 d_Mod_readCellOf_67 (by decide) (fun c22 => ?_) (fun c22 => ?_)
          ·
            exact absurd c22 (by decide)
          ·
            refine V_bipush 10 d_Mod_readCellOf_70 (by decide) ?_
            refine V_goto 76 d_Mod_readCellOf_72 (by decide) ?_
            refine N_callVI [.int 0, .int 10] [] cv_Mod_158 sk_116 rfl d_Mod_readCellOf_76 rfl (Nat.le_of_ble_eq_true rfl) (by decide) (by decide) (c_Mod_readNumberX h5 b (x_en b p0) hI7 0 0 tc_0 10 10 tc_10 s sZ sE (kn_call fh5 sK rfl) o9 o9Z o9E o9K o10 o10Z o10E o10K o11 o11Z o11E o11K o12 o12Z o12E o12K o13 o13Z o13E o13K o14 o14Z o14E o14K (TP_fr f8 (fun _ => rfl) hy0) (by (first | decide +kernel | omega)) (Or.inl (by (first | decide +kernel | omega)))) (fun z23 h24 z23Z z23E p25 => ?_)
            obtain ⟨hI26, fh24, o28, o28Z, o28E, o28K, o29, o29Z, o29E, o29K, o30, o30Z, o30E, o30K, o31, o31Z, o31E, o31K, o32, o32Z, o32E, o32K, o33, o33Z, o33E, o33K, p25⟩ := p25
            have f27 : fr S_Mod_readCellOfX_6 h h24 := fr_call f8 fh24 rfl
            have g34 : 0 ≤ o28Z ∧ o28Z ≤ 160 := inv_at hI26 o28E o28K.symm rfl
            have g35 : 0 ≤ o29Z ∧ o29Z ≤ 160 := inv_at hI26 o29E o29K.symm rfl
            refine V_istore_n 3 [some (.ref 116), some (.int 6), some (.int z4), some (.int z23), none] d_Mod_readCellOf_79 rfl (by decide) rfl rfl ?_
            refine V_iload_n 1 d_Mod_readCellOf_80 rfl rfl ?_
            refine V_iconst 4 d_Mod_readCellOf_81 (by decide) ?_
            refine V_icmp_ne 89 tc_6 tc_4 d_Mod_readCellOf_82 (by decide) (fun c36 => ?_) (fun c36 => ?_)
            ·
              refine V_iload_n 1 d_Mod_readCellOf_89 rfl rfl ?_
              refine V_bipush 6 d_Mod_readCellOf_90 (by decide) ?_
              refine V_icmp_ne 100 tc_6 tc_6 d_Mod_readCellOf_92 (by decide) (fun c37 => ?_) (fun c37 => ?_)
              ·
                exact absurd c37 (by decide)
              ·
                refine V_bipush 32 d_Mod_readCellOf_95 (by decide) ?_
                refine V_goto 102 d_Mod_readCellOf_97 (by decide) ?_
                refine V_istore 4 [some (.ref 116), some (.int 6), some (.int z4), some (.int z23), some (.int 32)] d_Mod_readCellOf_102 (by decide) rfl rfl ?_
                refine V_aload_n 0 d_Mod_readCellOf_104 rfl rfl ?_
                refine V_getR fa_Mod_17 sk_116 rfl d_Mod_readCellOf_105 ?_
                refine V_iload d_Mod_readCellOf_108 rfl ?_
                refine V_iload_n 2 d_Mod_readCellOf_110 rfl rfl ?_
                refine V_iadd tc_32 z4E (by (first | decide +kernel | omega)) d_Mod_readCellOf_111 (fun z38 z38e z38E => ?_)
                refine V_aload_n 0 d_Mod_readCellOf_112 rfl rfl ?_
                refine N_getK fa_Mod_102 sk_116 rfl d_Mod_readCellOf_113 o32K ?_
                refine V_if_ne 123 o32E d_Mod_readCellOf_116 (by decide) (fun c39 => ?_) (fun c39 => ?_)
                ·
                  refine V_aload_n 0 d_Mod_readCellOf_123 rfl rfl ?_
                  refine V_getR fa_Mod_17 sk_116 rfl d_Mod_readCellOf_124 ?_
                  refine V_iload d_Mod_readCellOf_127 rfl ?_
                  refine V_iload_n 2 d_Mod_readCellOf_129 rfl rfl ?_
                  refine V_iadd tc_32 z4E (by (first | decide +kernel | omega)) d_Mod_readCellOf_130 (fun z40 z40e z40E => ?_)
                  refine N_iald sk_119 z40E (by (first | decide +kernel | omega)) d_Mod_readCellOf_131 (fun z41 z41Z z41E z41e => ?_)
                  refine N_iast sk_119 z38E (by (first | decide +kernel | omega)) d_Mod_readCellOf_132 (fun h42 eh42 => ?_)
                  have hI43 : Inv h42 := inv_full hI26 eh42 (st_lo (by (first | decide +kernel | omega)))
                  have f44 : fr S_Mod_readCellOfX_6 h h42 := fr_put f27 eh42 rfl
                  exact V_vret rfl d_Mod_readCellOf_133 ⟨rfl, ⟨hI43, f44, o28, o28Z, o28E, (kn_ne eh42 o28K (by decide)), o29, o29Z, o29E, (kn_ne eh42 o29K (by decide)), o30, o30Z, o30E, (kn_ne eh42 o30K (by decide)), o31, o31Z, o31E, (kn_ne eh42 o31K (by decide)), o32, o32Z, o32E, (kn_ne eh42 o32K (by decide)), o33, o33Z, o33E, (kn_ne eh42 o33K (by decide)), ⟨Or.inl ⟨by (first | decide +kernel | omega), (show x_l3 b T p0 = (x_cN b p0 0 15, x_fr b p0) from by unfold x_l3; rw [x_sq_y (c := x_cN b p0 0 15) (by (first | decide +kernel | omega))]).trans (pq (by (first | decide +kernel | omega)) (by (first | decide +kernel | omega)))⟩, by (first | decide +kernel | omega), by (first | decide +kernel | omega), by (first | decide +kernel | omega)⟩⟩⟩
                ·
                  exact absurd c39 (by (first | decide +kernel | omega))
            ·
              exact absurd c36 (by decide)
        ·
          exact absurd c21 (by decide)
      ·
        exact absurd c20 (by decide)
    ·
      exact absurd c19 (by decide)
  ·
    replace p6 := And.intro ((p6.1.resolve_left (fun q => by (first | decide +kernel | omega))).resolve_right (fun q => by (first | decide +kernel | omega))) p6.2
    have g45 := x_c4_s (T 3 (x_vl b p0))
    refine V_iload_n 1 d_Mod_readCellOf_8 rfl rfl ?_
    refine V_iconst 5 d_Mod_readCellOf_9 (by decide) ?_
    refine V_icmp_ne 43 tc_6 tc_5 d_Mod_readCellOf_10 (by decide) (fun c46 => ?_) (fun c46 => ?_)
    ·
      refine V_aload_n 0 d_Mod_readCellOf_43 rfl rfl ?_
      refine V_iload_n 1 d_Mod_readCellOf_44 rfl rfl ?_
      refine V_iconst 4 d_Mod_readCellOf_45 (by decide) ?_
      refine V_icmp_ne 53 tc_6 tc_4 d_Mod_readCellOf_46 (by decide) (fun c47 => ?_) (fun c47 => ?_)
      ·
        refine V_iconst 0 d_Mod_readCellOf_53 (by decide) ?_
        refine V_iload_n 1 d_Mod_readCellOf_54 rfl rfl ?_
        refine V_iconst 4 d_Mod_readCellOf_55 (by decide) ?_
        refine V_icmp_ne 64 tc_6 tc_4 d_Mod_readCellOf_56 (by decide) (fun c48 => ?_) (fun c48 => ?_)
        ·
          refine V_iload_n 1 d_Mod_readCellOf_64 rfl rfl ?_
          refine V_bipush 6 d_Mod_readCellOf_65 (by decide) ?_
          refine V_icmp_ne 75 tc_6 tc_6 d_Mod_readCellOf_67 (by decide) (fun c49 => ?_) (fun c49 => ?_)
          ·
            exact absurd c49 (by decide)
          ·
            refine V_bipush 10 d_Mod_readCellOf_70 (by decide) ?_
            refine V_goto 76 d_Mod_readCellOf_72 (by decide) ?_
            refine N_callVI [.int 0, .int 10] [] cv_Mod_158 sk_116 rfl d_Mod_readCellOf_76 rfl (Nat.le_of_ble_eq_true rfl) (by decide) (by decide) (c_Mod_readNumberX h5 b (x_en b p0) hI7 0 0 tc_0 10 10 tc_10 s sZ sE (kn_call fh5 sK rfl) o9 o9Z o9E o9K o10 o10Z o10E o10K o11 o11Z o11E o11K o12 o12Z o12E o12K o13 o13Z o13E o13K o14 o14Z o14E o14K (TP_fr f8 (fun _ => rfl) hy0) (by (first | decide +kernel | omega)) (Or.inl (by (first | decide +kernel | omega)))) (fun z50 h51 z50Z z50E p52 => ?_)
            obtain ⟨hI53, fh51, o55, o55Z, o55E, o55K, o56, o56Z, o56E, o56K, o57, o57Z, o57E, o57K, o58, o58Z, o58E, o58K, o59, o59Z, o59E, o59K, o60, o60Z, o60E, o60K, p52⟩ := p52
            have f54 : fr S_Mod_readCellOfX_6 h h51 := fr_call f8 fh51 rfl
            have g61 : 0 ≤ o55Z ∧ o55Z ≤ 160 := inv_at hI53 o55E o55K.symm rfl
            have g62 : 0 ≤ o56Z ∧ o56Z ≤ 160 := inv_at hI53 o56E o56K.symm rfl
            refine V_istore_n 3 [some (.ref 116), some (.int 6), some (.int z4), some (.int z50), none] d_Mod_readCellOf_79 rfl (by decide) rfl rfl ?_
            refine V_iload_n 1 d_Mod_readCellOf_80 rfl rfl ?_
            refine V_iconst 4 d_Mod_readCellOf_81 (by decide) ?_
            refine V_icmp_ne 89 tc_6 tc_4 d_Mod_readCellOf_82 (by decide) (fun c63 => ?_) (fun c63 => ?_)
            ·
              refine V_iload_n 1 d_Mod_readCellOf_89 rfl rfl ?_
              refine V_bipush 6 d_Mod_readCellOf_90 (by decide) ?_
              refine V_icmp_ne 100 tc_6 tc_6 d_Mod_readCellOf_92 (by decide) (fun c64 => ?_) (fun c64 => ?_)
              ·
                exact absurd c64 (by decide)
              ·
                refine V_bipush 32 d_Mod_readCellOf_95 (by decide) ?_
                refine V_goto 102 d_Mod_readCellOf_97 (by decide) ?_
                refine V_istore 4 [some (.ref 116), some (.int 6), some (.int z4), some (.int z50), some (.int 32)] d_Mod_readCellOf_102 (by decide) rfl rfl ?_
                refine V_aload_n 0 d_Mod_readCellOf_104 rfl rfl ?_
                refine V_getR fa_Mod_17 sk_116 rfl d_Mod_readCellOf_105 ?_
                refine V_iload d_Mod_readCellOf_108 rfl ?_
                refine V_iload_n 2 d_Mod_readCellOf_110 rfl rfl ?_
                refine V_iadd tc_32 z4E (by (first | decide +kernel | omega)) d_Mod_readCellOf_111 (fun z65 z65e z65E => ?_)
                refine V_aload_n 0 d_Mod_readCellOf_112 rfl rfl ?_
                refine N_getK fa_Mod_102 sk_116 rfl d_Mod_readCellOf_113 o59K ?_
                refine V_if_ne 123 o59E d_Mod_readCellOf_116 (by decide) (fun c66 => ?_) (fun c66 => ?_)
                ·
                  refine V_aload_n 0 d_Mod_readCellOf_123 rfl rfl ?_
                  refine V_getR fa_Mod_17 sk_116 rfl d_Mod_readCellOf_124 ?_
                  refine V_iload d_Mod_readCellOf_127 rfl ?_
                  refine V_iload_n 2 d_Mod_readCellOf_129 rfl rfl ?_
                  refine V_iadd tc_32 z4E (by (first | decide +kernel | omega)) d_Mod_readCellOf_130 (fun z67 z67e z67E => ?_)
                  refine N_iald sk_119 z67E (by (first | decide +kernel | omega)) d_Mod_readCellOf_131 (fun z68 z68Z z68E z68e => ?_)
                  refine N_iast sk_119 z65E (by (first | decide +kernel | omega)) d_Mod_readCellOf_132 (fun h69 eh69 => ?_)
                  have hI70 : Inv h69 := inv_full hI53 eh69 (st_lo (by (first | decide +kernel | omega)))
                  have f71 : fr S_Mod_readCellOfX_6 h h69 := fr_put f54 eh69 rfl
                  exact V_vret rfl d_Mod_readCellOf_133 ⟨rfl, ⟨hI70, f71, o55, o55Z, o55E, (kn_ne eh69 o55K (by decide)), o56, o56Z, o56E, (kn_ne eh69 o56K (by decide)), o57, o57Z, o57E, (kn_ne eh69 o57K (by decide)), o58, o58Z, o58E, (kn_ne eh69 o58K (by decide)), o59, o59Z, o59E, (kn_ne eh69 o59K (by decide)), o60, o60Z, o60E, (kn_ne eh69 o60K (by decide)), ⟨Or.inl ⟨by (first | decide +kernel | omega), (show x_l3 b T p0 = (x_c4 (T 3 (x_vl b p0)), x_fr b p0) from by unfold x_l3; rw [x_sq_n (c := x_cN b p0 0 15) (by (first | decide +kernel | omega)), x_sq_y (c := x_c4 (T 3 (x_vl b p0))) (by (first | decide +kernel | omega))]).trans (pq (by (first | decide +kernel | omega)) (by (first | decide +kernel | omega)))⟩, by (first | decide +kernel | omega), by (first | decide +kernel | omega), by (first | decide +kernel | omega)⟩⟩⟩
                ·
                  exact absurd c66 (by (first | decide +kernel | omega))
            ·
              exact absurd c63 (by decide)
        ·
          exact absurd c48 (by decide)
      ·
        exact absurd c47 (by decide)
    ·
      exact absurd c46 (by decide)
  ·
    replace p6 := And.intro (((p6.1.resolve_left (fun q => by (first | decide +kernel | omega))).resolve_left (fun q => by (first | decide +kernel | omega))).2.2.2.1.resolve_right (fun q => by (first | decide +kernel | omega))) p6.2
    have g72 := x_cN_s b (x_en b p0) 0 10
    refine V_iload_n 1 d_Mod_readCellOf_8 rfl rfl ?_
    refine V_iconst 5 d_Mod_readCellOf_9 (by decide) ?_
    refine V_icmp_ne 43 tc_6 tc_5 d_Mod_readCellOf_10 (by decide) (fun c73 => ?_) (fun c73 => ?_)
    ·
      refine V_aload_n 0 d_Mod_readCellOf_43 rfl rfl ?_
      refine V_iload_n 1 d_Mod_readCellOf_44 rfl rfl ?_
      refine V_iconst 4 d_Mod_readCellOf_45 (by decide) ?_
      refine V_icmp_ne 53 tc_6 tc_4 d_Mod_readCellOf_46 (by decide) (fun c74 => ?_) (fun c74 => ?_)
      ·
        refine V_iconst 0 d_Mod_readCellOf_53 (by decide) ?_
        refine V_iload_n 1 d_Mod_readCellOf_54 rfl rfl ?_
        refine V_iconst 4 d_Mod_readCellOf_55 (by decide) ?_
        refine V_icmp_ne 64 tc_6 tc_4 d_Mod_readCellOf_56 (by decide) (fun c75 => ?_) (fun c75 => ?_)
        ·
          refine V_iload_n 1 d_Mod_readCellOf_64 rfl rfl ?_
          refine V_bipush 6 d_Mod_readCellOf_65 (by decide) ?_
          refine V_icmp_ne 75 tc_6 tc_6 d_Mod_readCellOf_67 (by decide) (fun c76 => ?_) (fun c76 => ?_)
          ·
            exact absurd c76 (by decide)
          ·
            refine V_bipush 10 d_Mod_readCellOf_70 (by decide) ?_
            refine V_goto 76 d_Mod_readCellOf_72 (by decide) ?_
            refine N_callVI [.int 0, .int 10] [] cv_Mod_158 sk_116 rfl d_Mod_readCellOf_76 rfl (Nat.le_of_ble_eq_true rfl) (by decide) (by decide) (c_Mod_readNumberX h5 b (x_en b p0) hI7 0 0 tc_0 10 10 tc_10 s sZ sE (kn_call fh5 sK rfl) o9 o9Z o9E o9K o10 o10Z o10E o10K o11 o11Z o11E o11K o12 o12Z o12E o12K o13 o13Z o13E o13K o14 o14Z o14E o14K (TP_fr f8 (fun _ => rfl) hy0) (by (first | decide +kernel | omega)) (Or.inl (by (first | decide +kernel | omega)))) (fun z77 h78 z77Z z77E p79 => ?_)
            obtain ⟨hI80, fh78, o82, o82Z, o82E, o82K, o83, o83Z, o83E, o83K, o84, o84Z, o84E, o84K, o85, o85Z, o85E, o85K, o86, o86Z, o86E, o86K, o87, o87Z, o87E, o87K, p79⟩ := p79
            have f81 : fr S_Mod_readCellOfX_6 h h78 := fr_call f8 fh78 rfl
            have g88 : 0 ≤ o82Z ∧ o82Z ≤ 160 := inv_at hI80 o82E o82K.symm rfl
            have g89 : 0 ≤ o83Z ∧ o83Z ≤ 160 := inv_at hI80 o83E o83K.symm rfl
            refine V_istore_n 3 [some (.ref 116), some (.int 6), some (.int z4), some (.int z77), none] d_Mod_readCellOf_79 rfl (by decide) rfl rfl ?_
            refine V_iload_n 1 d_Mod_readCellOf_80 rfl rfl ?_
            refine V_iconst 4 d_Mod_readCellOf_81 (by decide) ?_
            refine V_icmp_ne 89 tc_6 tc_4 d_Mod_readCellOf_82 (by decide) (fun c90 => ?_) (fun c90 => ?_)
            ·
              refine V_iload_n 1 d_Mod_readCellOf_89 rfl rfl ?_
              refine V_bipush 6 d_Mod_readCellOf_90 (by decide) ?_
              refine V_icmp_ne 100 tc_6 tc_6 d_Mod_readCellOf_92 (by decide) (fun c91 => ?_) (fun c91 => ?_)
              ·
                exact absurd c91 (by decide)
              ·
                refine V_bipush 32 d_Mod_readCellOf_95 (by decide) ?_
                refine V_goto 102 d_Mod_readCellOf_97 (by decide) ?_
                refine V_istore 4 [some (.ref 116), some (.int 6), some (.int z4), some (.int z77), some (.int 32)] d_Mod_readCellOf_102 (by decide) rfl rfl ?_
                refine V_aload_n 0 d_Mod_readCellOf_104 rfl rfl ?_
                refine V_getR fa_Mod_17 sk_116 rfl d_Mod_readCellOf_105 ?_
                refine V_iload d_Mod_readCellOf_108 rfl ?_
                refine V_iload_n 2 d_Mod_readCellOf_110 rfl rfl ?_
                refine V_iadd tc_32 z4E (by (first | decide +kernel | omega)) d_Mod_readCellOf_111 (fun z92 z92e z92E => ?_)
                refine V_aload_n 0 d_Mod_readCellOf_112 rfl rfl ?_
                refine N_getK fa_Mod_102 sk_116 rfl d_Mod_readCellOf_113 o86K ?_
                refine V_if_ne 123 o86E d_Mod_readCellOf_116 (by decide) (fun c93 => ?_) (fun c93 => ?_)
                ·
                  refine V_aload_n 0 d_Mod_readCellOf_123 rfl rfl ?_
                  refine V_getR fa_Mod_17 sk_116 rfl d_Mod_readCellOf_124 ?_
                  refine V_iload d_Mod_readCellOf_127 rfl ?_
                  refine V_iload_n 2 d_Mod_readCellOf_129 rfl rfl ?_
                  refine V_iadd tc_32 z4E (by (first | decide +kernel | omega)) d_Mod_readCellOf_130 (fun z94 z94e z94E => ?_)
                  refine N_iald sk_119 z94E (by (first | decide +kernel | omega)) d_Mod_readCellOf_131 (fun z95 z95Z z95E z95e => ?_)
                  refine N_iast sk_119 z92E (by (first | decide +kernel | omega)) d_Mod_readCellOf_132 (fun h96 eh96 => ?_)
                  have hI97 : Inv h96 := inv_full hI80 eh96 (st_lo (by (first | decide +kernel | omega)))
                  have f98 : fr S_Mod_readCellOfX_6 h h96 := fr_put f81 eh96 rfl
                  exact V_vret rfl d_Mod_readCellOf_133 ⟨rfl, ⟨hI97, f98, o82, o82Z, o82E, (kn_ne eh96 o82K (by decide)), o83, o83Z, o83E, (kn_ne eh96 o83K (by decide)), o84, o84Z, o84E, (kn_ne eh96 o84K (by decide)), o85, o85Z, o85E, (kn_ne eh96 o85K (by decide)), o86, o86Z, o86E, (kn_ne eh96 o86K (by decide)), o87, o87Z, o87E, (kn_ne eh96 o87K (by decide)), ⟨Or.inl ⟨by (first | decide +kernel | omega), (show x_l3 b T p0 = (x_cN b (x_en b p0) 0 10, x_fr b (x_en b p0)) from by unfold x_l3; rw [x_sq_n (c := x_cN b p0 0 15) (by (first | decide +kernel | omega)), x_sq_n (c := x_c4 (T 3 (x_vl b p0))) (by (first | decide +kernel | omega)), x_sq_y (c := x_cN b (x_en b p0) 0 10) (by (first | decide +kernel | omega))]).trans (pq (by (first | decide +kernel | omega)) (by (first | decide +kernel | omega)))⟩, by (first | decide +kernel | omega), by (first | decide +kernel | omega), by (first | decide +kernel | omega)⟩⟩⟩
                ·
                  exact absurd c93 (by (first | decide +kernel | omega))
            ·
              exact absurd c90 (by decide)
        ·
          exact absurd c75 (by decide)
      ·
        exact absurd c74 (by decide)
    ·
      exact absurd c73 (by decide)
  ·
    obtain ⟨p61, p62, p63, p64, p6R⟩ := ((p6.1.resolve_left (fun q => by (first | decide +kernel | omega))).resolve_left (fun q => by (first | decide +kernel | omega)))
    replace p6 := And.intro (p64.resolve_left (fun q => by (first | decide +kernel | omega))) p6.2
    clear p64
    refine V_iload_n 1 d_Mod_readCellOf_8 rfl rfl ?_
    refine V_iconst 5 d_Mod_readCellOf_9 (by decide) ?_
    refine V_icmp_ne 43 tc_6 tc_5 d_Mod_readCellOf_10 (by decide) (fun c99 => ?_) (fun c99 => ?_)
    ·
      refine V_aload_n 0 d_Mod_readCellOf_43 rfl rfl ?_
      refine V_iload_n 1 d_Mod_readCellOf_44 rfl rfl ?_
      refine V_iconst 4 d_Mod_readCellOf_45 (by decide) ?_
      refine V_icmp_ne 53 tc_6 tc_4 d_Mod_readCellOf_46 (by decide) (fun c100 => ?_) (fun c100 => ?_)
      ·
        refine V_iconst 0 d_Mod_readCellOf_53 (by decide) ?_
        refine V_iload_n 1 d_Mod_readCellOf_54 rfl rfl ?_
        refine V_iconst 4 d_Mod_readCellOf_55 (by decide) ?_
        refine V_icmp_ne 64 tc_6 tc_4 d_Mod_readCellOf_56 (by decide) (fun c101 => ?_) (fun c101 => ?_)
        ·
          refine V_iload_n 1 d_Mod_readCellOf_64 rfl rfl ?_
          refine V_bipush 6 d_Mod_readCellOf_65 (by decide) ?_
          refine V_icmp_ne 75 tc_6 tc_6 d_Mod_readCellOf_67 (by decide) (fun c102 => ?_) (fun c102 => ?_)
          ·
            exact absurd c102 (by decide)
          ·
            refine V_bipush 10 d_Mod_readCellOf_70 (by decide) ?_
            refine V_goto 76 d_Mod_readCellOf_72 (by decide) ?_
            refine N_callVI [.int 0, .int 10] [] cv_Mod_158 sk_116 rfl d_Mod_readCellOf_76 rfl (Nat.le_of_ble_eq_true rfl) (by decide) (by decide) (c_Mod_readNumberX h5 b (x_en b p0) hI7 0 0 tc_0 10 10 tc_10 s sZ sE (kn_call fh5 sK rfl) o9 o9Z o9E o9K o10 o10Z o10E o10K o11 o11Z o11E o11K o12 o12Z o12E o12K o13 o13Z o13E o13K o14 o14Z o14E o14K (TP_fr f8 (fun _ => rfl) hy0) (by (first | decide +kernel | omega)) (Or.inr ⟨by (first | decide +kernel | omega), by (first | decide +kernel | omega), by (first | decide +kernel | omega), by (first | decide +kernel | omega), by (first | decide +kernel | omega), by (first | decide +kernel | omega), by (first | decide +kernel | omega), by (first | decide +kernel | omega), by (first | decide +kernel | omega), by (first | decide +kernel | omega), by (first | decide +kernel | omega)⟩)) (fun z103 h104 z103Z z103E p105 => ?_)
            obtain ⟨hI106, fh104, o108, o108Z, o108E, o108K, o109, o109Z, o109E, o109K, o110, o110Z, o110E, o110K, o111, o111Z, o111E, o111K, o112, o112Z, o112E, o112K, o113, o113Z, o113E, o113K, p105⟩ := p105
            have f107 : fr S_Mod_readCellOfX_6 h h104 := fr_call f8 fh104 rfl
            have R114 : RM h104 (x_upT T 3 (x_vl b p0)) D := RM_fr fh104 rfl p6R
            have g115 : 0 ≤ o108Z ∧ o108Z ≤ 160 := inv_at hI106 o108E o108K.symm rfl
            have g116 : 0 ≤ o109Z ∧ o109Z ≤ 160 := inv_at hI106 o109E o109K.symm rfl
            rcases (dj3 _ _ : o112Z ≠ 0 ∧ x_cN b (x_en b p0) 0 10 ≠ 0 ∨ o112Z ≠ 0 ∧ x_cN b (x_en b p0) 0 10 = 0 ∨ o112Z = 0) with c117 | c117 | c117
            ·
              replace p105 := And.intro ((p105.1.resolve_left (fun q => by (first | decide +kernel | omega))).resolve_right (fun q => by (first | decide +kernel | omega))) p105.2
              have g118 := x_cN_s b (x_en b p0) 0 10
              have g119 := x_cS_s b (x_en b (x_en b p0))
              refine V_istore_n 3 [some (.ref 116), some (.int 6), some (.int z4), some (.int z103), none] d_Mod_readCellOf_79 rfl (by decide) rfl rfl ?_
              refine V_iload_n 1 d_Mod_readCellOf_80 rfl rfl ?_
              refine V_iconst 4 d_Mod_readCellOf_81 (by decide) ?_
              refine V_icmp_ne 89 tc_6 tc_4 d_Mod_readCellOf_82 (by decide) (fun c120 => ?_) (fun c120 => ?_)
              ·
                refine V_iload_n 1 d_Mod_readCellOf_89 rfl rfl ?_
                refine V_bipush 6 d_Mod_readCellOf_90 (by decide) ?_
                refine V_icmp_ne 100 tc_6 tc_6 d_Mod_readCellOf_92 (by decide) (fun c121 => ?_) (fun c121 => ?_)
                ·
                  exact absurd c121 (by decide)
                ·
                  refine V_bipush 32 d_Mod_readCellOf_95 (by decide) ?_
                  refine V_goto 102 d_Mod_readCellOf_97 (by decide) ?_
                  refine V_istore 4 [some (.ref 116), some (.int 6), some (.int z4), some (.int z103), some (.int 32)] d_Mod_readCellOf_102 (by decide) rfl rfl ?_
                  refine V_aload_n 0 d_Mod_readCellOf_104 rfl rfl ?_
                  refine V_getR fa_Mod_17 sk_116 rfl d_Mod_readCellOf_105 ?_
                  refine V_iload d_Mod_readCellOf_108 rfl ?_
                  refine V_iload_n 2 d_Mod_readCellOf_110 rfl rfl ?_
                  refine V_iadd tc_32 z4E (by (first | decide +kernel | omega)) d_Mod_readCellOf_111 (fun z122 z122e z122E => ?_)
                  refine V_aload_n 0 d_Mod_readCellOf_112 rfl rfl ?_
                  refine N_getK fa_Mod_102 sk_116 rfl d_Mod_readCellOf_113 o112K ?_
                  refine V_if_ne 123 o112E d_Mod_readCellOf_116 (by decide) (fun c123 => ?_) (fun c123 => ?_)
                  ·
                    refine V_aload_n 0 d_Mod_readCellOf_123 rfl rfl ?_
                    refine V_getR fa_Mod_17 sk_116 rfl d_Mod_readCellOf_124 ?_
                    refine V_iload d_Mod_readCellOf_127 rfl ?_
                    refine V_iload_n 2 d_Mod_readCellOf_129 rfl rfl ?_
                    refine V_iadd tc_32 z4E (by (first | decide +kernel | omega)) d_Mod_readCellOf_130 (fun z124 z124e z124E => ?_)
                    refine N_iald sk_119 z124E (by (first | decide +kernel | omega)) d_Mod_readCellOf_131 (fun z125 z125Z z125E z125e => ?_)
                    refine N_iast sk_119 z122E (by (first | decide +kernel | omega)) d_Mod_readCellOf_132 (fun h126 eh126 => ?_)
                    have hI127 : Inv h126 := inv_full hI106 eh126 (st_lo (by (first | decide +kernel | omega)))
                    have f128 : fr S_Mod_readCellOfX_6 h h126 := fr_put f107 eh126 rfl
                    exact V_vret rfl d_Mod_readCellOf_133 ⟨rfl, ⟨hI127, f128, o108, o108Z, o108E, (kn_ne eh126 o108K (by decide)), o109, o109Z, o109E, (kn_ne eh126 o109K (by decide)), o110, o110Z, o110E, (kn_ne eh126 o110K (by decide)), o111, o111Z, o111E, (kn_ne eh126 o111K (by decide)), o112, o112Z, o112E, (kn_ne eh126 o112K (by decide)), o113, o113Z, o113E, (kn_ne eh126 o113K (by decide)), ⟨Or.inl ⟨by (first | decide +kernel | omega), (show x_l3 b T p0 = (x_cN b (x_en b p0) 0 10, x_fr b (x_en b p0)) from by unfold x_l3; rw [x_sq_n (c := x_cN b p0 0 15) (by (first | decide +kernel | omega)), x_sq_n (c := x_c4 (T 3 (x_vl b p0))) (by (first | decide +kernel | omega)), x_sq_y (c := x_cN b (x_en b p0) 0 10) (by (first | decide +kernel | omega))]).trans (pq (by (first | decide +kernel | omega)) (by (first | decide +kernel | omega)))⟩, by (first | decide +kernel | omega), by (first | decide +kernel | omega), by (first | decide +kernel | omega)⟩⟩⟩
                  ·
                    exact absurd c123 (by (first | decide +kernel | omega))
              ·
                exact absurd c120 (by decide)
            ·
              replace p105 := And.intro ((p105.1.resolve_left (fun q => by (first | decide +kernel | omega))).resolve_left (fun q => by (first | decide +kernel | omega))).2.1 (And.intro ((p105.1.resolve_left (fun q => by (first | decide +kernel | omega))).resolve_left (fun q => by (first | decide +kernel | omega))).2.2.1 (And.intro (((p105.1.resolve_left (fun q => by (first | decide +kernel | omega))).resolve_left (fun q => by (first | decide +kernel | omega))).2.2.2.resolve_right (fun q => by (first | decide +kernel | omega))) p105.2))
              have g129 := x_cN_s b (x_en b p0) 0 10
              have g130 := x_cS_s b (x_en b (x_en b p0))
              refine V_istore_n 3 [some (.ref 116), some (.int 6), some (.int z4), some (.int z103), none] d_Mod_readCellOf_79 rfl (by decide) rfl rfl ?_
              refine V_iload_n 1 d_Mod_readCellOf_80 rfl rfl ?_
              refine V_iconst 4 d_Mod_readCellOf_81 (by decide) ?_
              refine V_icmp_ne 89 tc_6 tc_4 d_Mod_readCellOf_82 (by decide) (fun c131 => ?_) (fun c131 => ?_)
              ·
                refine V_iload_n 1 d_Mod_readCellOf_89 rfl rfl ?_
                refine V_bipush 6 d_Mod_readCellOf_90 (by decide) ?_
                refine V_icmp_ne 100 tc_6 tc_6 d_Mod_readCellOf_92 (by decide) (fun c132 => ?_) (fun c132 => ?_)
                ·
                  exact absurd c132 (by decide)
                ·
                  refine V_bipush 32 d_Mod_readCellOf_95 (by decide) ?_
                  refine V_goto 102 d_Mod_readCellOf_97 (by decide) ?_
                  refine V_istore 4 [some (.ref 116), some (.int 6), some (.int z4), some (.int z103), some (.int 32)] d_Mod_readCellOf_102 (by decide) rfl rfl ?_
                  refine V_aload_n 0 d_Mod_readCellOf_104 rfl rfl ?_
                  refine V_getR fa_Mod_17 sk_116 rfl d_Mod_readCellOf_105 ?_
                  refine V_iload d_Mod_readCellOf_108 rfl ?_
                  refine V_iload_n 2 d_Mod_readCellOf_110 rfl rfl ?_
                  refine V_iadd tc_32 z4E (by (first | decide +kernel | omega)) d_Mod_readCellOf_111 (fun z133 z133e z133E => ?_)
                  refine V_aload_n 0 d_Mod_readCellOf_112 rfl rfl ?_
                  refine N_getK fa_Mod_102 sk_116 rfl d_Mod_readCellOf_113 o112K ?_
                  refine V_if_ne 123 o112E d_Mod_readCellOf_116 (by decide) (fun c134 => ?_) (fun c134 => ?_)
                  ·
                    refine V_aload_n 0 d_Mod_readCellOf_123 rfl rfl ?_
                    refine V_getR fa_Mod_17 sk_116 rfl d_Mod_readCellOf_124 ?_
                    refine V_iload d_Mod_readCellOf_127 rfl ?_
                    refine V_iload_n 2 d_Mod_readCellOf_129 rfl rfl ?_
                    refine V_iadd tc_32 z4E (by (first | decide +kernel | omega)) d_Mod_readCellOf_130 (fun z135 z135e z135E => ?_)
                    refine N_iald sk_119 z135E (by (first | decide +kernel | omega)) d_Mod_readCellOf_131 (fun z136 z136Z z136E z136e => ?_)
                    refine N_iast sk_119 z133E (by (first | decide +kernel | omega)) d_Mod_readCellOf_132 (fun h137 eh137 => ?_)
                    have hI138 : Inv h137 := inv_full hI106 eh137 (st_lo (by (first | decide +kernel | omega)))
                    have f139 : fr S_Mod_readCellOfX_6 h h137 := fr_put f107 eh137 rfl
                    exact V_vret rfl d_Mod_readCellOf_133 ⟨rfl, ⟨hI138, f139, o108, o108Z, o108E, (kn_ne eh137 o108K (by decide)), o109, o109Z, o109E, (kn_ne eh137 o109K (by decide)), o110, o110Z, o110E, (kn_ne eh137 o110K (by decide)), o111, o111Z, o111E, (kn_ne eh137 o111K (by decide)), o112, o112Z, o112E, (kn_ne eh137 o112K (by decide)), o113, o113Z, o113E, (kn_ne eh137 o113K (by decide)), ⟨Or.inl ⟨by (first | decide +kernel | omega), (show x_l3 b T p0 = (x_cS b (x_en b (x_en b p0)), x_fr b (x_en b (x_en b p0))) from by unfold x_l3; rw [x_sq_n (c := x_cN b p0 0 15) (by (first | decide +kernel | omega)), x_sq_n (c := x_c4 (T 3 (x_vl b p0))) (by (first | decide +kernel | omega)), x_sq_n (c := x_cN b (x_en b p0) 0 10) (by (first | decide +kernel | omega)), x_sq_y (c := x_cS b (x_en b (x_en b p0))) (by (first | decide +kernel | omega))]).trans (pq (by (first | decide +kernel | omega)) (by (first | decide +kernel | omega)))⟩, by (first | decide +kernel | omega), by (first | decide +kernel | omega), by (first | decide +kernel | omega)⟩⟩⟩
                  ·
                    exact absurd c134 (by (first | decide +kernel | omega))
              ·
                exact absurd c131 (by decide)
            ·
              replace p105 := And.intro ((p105.1.resolve_left (fun q => by (first | decide +kernel | omega))).resolve_left (fun q => by (first | decide +kernel | omega))).2.1 (And.intro ((p105.1.resolve_left (fun q => by (first | decide +kernel | omega))).resolve_left (fun q => by (first | decide +kernel | omega))).2.2.1 (And.intro (((p105.1.resolve_left (fun q => by (first | decide +kernel | omega))).resolve_left (fun q => by (first | decide +kernel | omega))).2.2.2.resolve_left (fun q => by (first | decide +kernel | omega))) p105.2))
              refine V_istore_n 3 [some (.ref 116), some (.int 6), some (.int z4), some (.int z103), none] d_Mod_readCellOf_79 rfl (by decide) rfl rfl ?_
              refine V_iload_n 1 d_Mod_readCellOf_80 rfl rfl ?_
              refine V_iconst 4 d_Mod_readCellOf_81 (by decide) ?_
              refine V_icmp_ne 89 tc_6 tc_4 d_Mod_readCellOf_82 (by decide) (fun c140 => ?_) (fun c140 => ?_)
              ·
                refine V_iload_n 1 d_Mod_readCellOf_89 rfl rfl ?_
                refine V_bipush 6 d_Mod_readCellOf_90 (by decide) ?_
                refine V_icmp_ne 100 tc_6 tc_6 d_Mod_readCellOf_92 (by decide) (fun c141 => ?_) (fun c141 => ?_)
                ·
                  exact absurd c141 (by decide)
                ·
                  refine V_bipush 32 d_Mod_readCellOf_95 (by decide) ?_
                  refine V_goto 102 d_Mod_readCellOf_97 (by decide) ?_
                  refine V_istore 4 [some (.ref 116), some (.int 6), some (.int z4), some (.int z103), some (.int 32)] d_Mod_readCellOf_102 (by decide) rfl rfl ?_
                  refine V_aload_n 0 d_Mod_readCellOf_104 rfl rfl ?_
                  refine V_getR fa_Mod_17 sk_116 rfl d_Mod_readCellOf_105 ?_
                  refine V_iload d_Mod_readCellOf_108 rfl ?_
                  refine V_iload_n 2 d_Mod_readCellOf_110 rfl rfl ?_
                  refine V_iadd tc_32 z4E (by (first | decide +kernel | omega)) d_Mod_readCellOf_111 (fun z142 z142e z142E => ?_)
                  refine V_aload_n 0 d_Mod_readCellOf_112 rfl rfl ?_
                  refine N_getK fa_Mod_102 sk_116 rfl d_Mod_readCellOf_113 o112K ?_
                  refine V_if_ne 123 o112E d_Mod_readCellOf_116 (by decide) (fun c143 => ?_) (fun c143 => ?_)
                  ·
                    exact absurd c143 (by (first | decide +kernel | omega))
                  ·
                    refine V_iload_n 3 d_Mod_readCellOf_119 rfl rfl ?_
                    refine V_goto 132 d_Mod_readCellOf_120 (by decide) ?_
                    refine N_iast sk_119 z142E (by (first | decide +kernel | omega)) d_Mod_readCellOf_132 (fun h144 eh144 => ?_)
                    have hI145 : Inv h144 := inv_full hI106 eh144 (st_lo (by (first | decide +kernel | omega)))
                    have f146 : fr S_Mod_readCellOfX_6 h h144 := fr_put f107 eh144 rfl
                    have R147 : RM h144 (x_upT T 3 (x_vl b p0)) (x_up D (32 + (x_vl b p0)) (x_vl b (x_en b p0))) := RM_put R114 eh144 (Or.inl ⟨rfl, by (first | decide +kernel | omega), rfl⟩) (z103E.trans (by (first | decide +kernel | omega))) (by (first | decide +kernel | omega))
                    exact V_vret rfl d_Mod_readCellOf_133 ⟨rfl, ⟨hI145, f146, o108, o108Z, o108E, (kn_ne eh144 o108K (by decide)), o109, o109Z, o109E, (kn_ne eh144 o109K (by decide)), o110, o110Z, o110E, (kn_ne eh144 o110K (by decide)), o111, o111Z, o111E, (kn_ne eh144 o111K (by decide)), o112, o112Z, o112E, (kn_ne eh144 o112K (by decide)), o113, o113Z, o113E, (kn_ne eh144 o113K (by decide)), ⟨Or.inr ⟨by (first | decide +kernel | omega), by unfold x_l3; rw [x_sq_n (c := x_cN b p0 0 15) (by (first | decide +kernel | omega)), x_sq_n (c := x_c4 (T 3 (x_vl b p0))) (by (first | decide +kernel | omega)), x_sq_n (c := x_cN b (x_en b p0) 0 10) (by (first | decide +kernel | omega))], p105.2.2.1.2, R147⟩, by (first | decide +kernel | omega), by (first | decide +kernel | omega), by (first | decide +kernel | omega)⟩⟩⟩
              ·
                exact absurd c140 (by decide)
        ·
          exact absurd c101 (by decide)
      ·
        exact absurd c100 (by decide)
    ·
      exact absurd c99 (by decide)
def S_Mod_readCellOfX_7 : List (Nat × Option Nat) := [(116, some 16), (116, some 17), (116, some 18), (116, some 19), (116, some 20), (116, some 21), (119, none), (120, some 3), (116, some 13)]
abbrev q_Mod_readCellOfX_7 (h : Hp) (b : Int → Int) (T : Nat → Int → Int) (D : Nat → Int) (p0 : Int) (s : Int32) (sZ : Int) (p : Int32) (pZ : Int) (g : Int32) (gZ : Int) (k : Int32) (kZ : Int) (v : Int32) (vZ : Int) (w : Int32) (wZ : Int) (a : Int32) (aZ : Int) (z : Int32) (zZ : Int) (i : Int32) (iZ : Int) : Option Value → Hp → Prop := pVd (fun h' => Inv h' ∧ fr S_Mod_readCellOfX_7 h h' ∧ ∃ (q : Int32) (qZ : Int), q.toInt = qZ ∧ h'.1 116 16 = q ∧ ∃ (f : Int32) (fZ : Int), f.toInt = fZ ∧ h'.1 116 17 = f ∧ ∃ (m : Int32) (mZ : Int), m.toInt = mZ ∧ h'.1 116 18 = m ∧ ∃ (x : Int32) (xZ : Int), x.toInt = xZ ∧ h'.1 116 19 = x ∧ ∃ (u : Int32) (uZ : Int), u.toInt = uZ ∧ h'.1 116 20 = u ∧ ∃ (y : Int32) (yZ : Int), y.toInt = yZ ∧ h'.1 116 21 = y ∧ ((uZ ≠ 0 ∧ x_l4 b T p0 = (uZ, yZ) ∨ uZ = 0 ∧ x_l4 b T p0 = x_sq (x_cS b (x_en b (x_en b p0))) (x_fr b (x_en b (x_en b p0))) (0, x_en b (x_en b (x_en b p0))) ∧ (fZ = x_fr b (x_en b (x_en b p0)) ∧ mZ = x_kd b (x_en b (x_en b p0)) ∧ mZ ≠ 4 ∧ 0 ≤ mZ ∧ mZ ≤ 3 ∧ qZ = x_en b (x_en b (x_en b p0)) ∧ (mZ ≠ 2 ∨ xZ = x_vl b (x_en b (x_en b p0)) ∧ 0 ≤ xZ ∧ xZ ≤ 99) ∧ (x_en b (x_en b p0)) ≤ fZ ∧ fZ ≤ qZ ∧ qZ ≤ sZ ∧ (mZ = 0 ∨ fZ < qZ)) ∧ RM h' (x_upT T 4 (x_vl b p0)) (x_up D (48 + (x_vl b p0)) (x_vl b (x_en b p0)))) ∧ 0 ≤ qZ ∧ qZ ≤ sZ ∧ 0 ≤ uZ))
set_option maxRecDepth 100000 in
theorem c_Mod_readCellOfX_7 (h : Hp) (b : Int → Int) (T : Nat → Int → Int) (D : Nat → Int) (p0 : Int) (hI : Inv h) (s : Int32) (sZ : Int) (sE : s.toInt = sZ) (sK : h.1 116 15 = s) (p : Int32) (pZ : Int) (pE : p.toInt = pZ) (pK : h.1 116 16 = p) (g : Int32) (gZ : Int) (gE : g.toInt = gZ) (gK : h.1 116 17 = g) (k : Int32) (kZ : Int) (kE : k.toInt = kZ) (kK : h.1 116 18 = k) (v : Int32) (vZ : Int) (vE : v.toInt = vZ) (vK : h.1 116 19 = v) (w : Int32) (wZ : Int) (wE : w.toInt = wZ) (wK : h.1 116 20 = w) (a : Int32) (aZ : Int) (aE : a.toInt = aZ) (aK : h.1 116 21 = a) (z : Int32) (zZ : Int) (zE : z.toInt = zZ) (zK : h.1 120 3 = z) (i : Int32) (iZ : Int) (iE : i.toInt = iZ) (iK : h.1 116 13 = i) (hy0 : TP h 121 sZ b) (hy1 : 0 ≤ pZ ∧ pZ ≤ sZ ∧ wZ = 0) (hy2 : gZ = x_fr b p0 ∧ kZ = x_kd b p0 ∧ kZ ≠ 4 ∧ 0 ≤ kZ ∧ kZ ≤ 3 ∧ pZ = x_en b p0 ∧ (kZ ≠ 2 ∨ vZ = x_vl b p0 ∧ 0 ≤ vZ ∧ vZ ≤ 99) ∧ p0 ≤ gZ ∧ gZ ≤ pZ ∧ pZ ≤ sZ ∧ (kZ = 0 ∨ gZ < pZ)) (hy3 : RM h T D) : Ct y_Mod_readCellOf b_Mod_readCellOf 5 none 3 70 [.ref 116, .int 7] h (q_Mod_readCellOfX_7 h b T D p0 s sZ p pZ g gZ k kZ v vZ w wZ a aZ z zZ i iZ) := by
  refine ct_ow R_Mod [some (.ref 116), some (.int 7), none, none, none] rfl (by decide) rfl (Nat.le_of_ble_eq_true rfl) ?_
  have f0 : fr S_Mod_readCellOfX_7 h h := fr_rf
  have g1 : 0 ≤ sZ ∧ sZ ≤ 160 := inv_at hI sE sK.symm rfl
  have g2 : 0 ≤ pZ ∧ pZ ≤ 160 := inv_at hI pE pK.symm rfl
  have g3 : 0 ≤ gZ ∧ gZ ≤ 160 := inv_at hI gE gK.symm rfl
  refine V_aload_n 0 d_Mod_readCellOf_0 rfl rfl ?_
  refine V_iload_n 1 d_Mod_readCellOf_1 rfl rfl ?_
  refine V_bipush 15 d_Mod_readCellOf_2 (by decide) ?_
  refine N_callVI [.int 7, .int 15] [] cv_Mod_161 sk_116 rfl d_Mod_readCellOf_4 rfl (Nat.le_of_ble_eq_true rfl) (by decide) (by decide) (c_Mod_readFreshX_7 h b T D p0 hI s sZ sE sK p pZ pE pK g gZ gE gK k kZ kE kK v vZ vE vK w wZ wE wK a aZ aE aK z zZ zE zK i iZ iE iK (TP_fr f0 (fun _ => rfl) hy0) (by (first | decide +kernel | omega)) ⟨by (first | decide +kernel | omega), by (first | decide +kernel | omega), by (first | decide +kernel | omega), by (first | decide +kernel | omega), by (first | decide +kernel | omega), by (first | decide +kernel | omega), by (first | decide +kernel | omega), by (first | decide +kernel | omega), by (first | decide +kernel | omega), by (first | decide +kernel | omega), by (first | decide +kernel | omega)⟩ hy3) (fun z4 h5 z4Z z4E p6 => ?_)
  obtain ⟨hI7, fh5, o9, o9Z, o9E, o9K, o10, o10Z, o10E, o10K, o11, o11Z, o11E, o11K, o12, o12Z, o12E, o12K, o13, o13Z, o13E, o13K, o14, o14Z, o14E, o14K, p6⟩ := p6
  have f8 : fr S_Mod_readCellOfX_7 h h5 := fr_call f0 fh5 rfl
  have g15 : 0 ≤ o9Z ∧ o9Z ≤ 160 := inv_at hI7 o9E o9K.symm rfl
  have g16 : 0 ≤ o10Z ∧ o10Z ≤ 160 := inv_at hI7 o10E o10K.symm rfl
  refine V_istore_n 2 [some (.ref 116), some (.int 7), some (.int z4), none, none] d_Mod_readCellOf_7 rfl (by decide) rfl rfl ?_
  rcases (dj4 _ _ _ : o13Z ≠ 0 ∧ x_cN b p0 0 15 ≠ 0 ∨ o13Z ≠ 0 ∧ x_cN b p0 0 15 = 0 ∧ x_c4 (T 4 (x_vl b p0)) ≠ 0 ∨ o13Z ≠ 0 ∧ x_cN b p0 0 15 = 0 ∧ x_c4 (T 4 (x_vl b p0)) = 0 ∨ o13Z = 0) with c17 | c17 | c17 | c17
  ·
    replace p6 := And.intro (p6.1.resolve_right (fun q => by (first | decide +kernel | omega))) p6.2
    have g18 := x_cN_s b p0 0 15
    refine V_iload_n 1 d_Mod_readCellOf_8 rfl rfl ?_
    refine V_iconst 5 d_Mod_readCellOf_9 (by decide) ?_
    refine V_icmp_ne 43 tc_7 tc_5 d_Mod_readCellOf_10 (by decide) (fun c19 => ?_) (fun c19 => ?_)
    ·
      refine V_aload_n 0 d_Mod_readCellOf_43 rfl rfl ?_
      refine V_iload_n 1 d_Mod_readCellOf_44 rfl rfl ?_
      refine V_iconst 4 d_Mod_readCellOf_45 (by decide) ?_
      refine V_icmp_ne 53 tc_7 tc_4 d_Mod_readCellOf_46 (by decide) (fun c20 => ?_) (fun c20 => ?_)
      ·
        refine V_iconst 0 d_Mod_readCellOf_53 (by decide) ?_
        refine V_iload_n 1 d_Mod_readCellOf_54 rfl rfl ?_
        refine V_iconst 4 d_Mod_readCellOf_55 (by decide) ?_
        refine V_icmp_ne 64 tc_7 tc_4 d_Mod_readCellOf_56 (by decide) (fun c21 => ?_) (fun c21 => ?_)
        ·
          refine V_iload_n 1 d_Mod_readCellOf_64 rfl rfl ?_
          refine V_bipush 6 d_Mod_readCellOf_65 (by decide) ?_
          refine V_icmp_ne 75 tc_7 tc_6 d_Mod_readCellOf_67 (by decide) (fun c22 => ?_) (fun c22 => ?_)
          ·
            refine V_iconst 3 d_Mod_readCellOf_75 (by decide) ?_
            refine N_callVI [.int 0, .int 3] [] cv_Mod_158 sk_116 rfl d_Mod_readCellOf_76 rfl (Nat.le_of_ble_eq_true rfl) (by decide) (by decide) (c_Mod_readNumberX h5 b (x_en b p0) hI7 0 0 tc_0 3 3 tc_3 s sZ sE (kn_call fh5 sK rfl) o9 o9Z o9E o9K o10 o10Z o10E o10K o11 o11Z o11E o11K o12 o12Z o12E o12K o13 o13Z o13E o13K o14 o14Z o14E o14K (TP_fr f8 (fun _ => rfl) hy0) (by (first | decide +kernel | omega)) (Or.inl (by (first | decide +kernel | omega)))) (fun z23 h24 z23Z z23E p25 => ?_)
            obtain ⟨hI26, fh24, o28, o28Z, o28E, o28K, o29, o29Z, o29E, o29K, o30, o30Z, o30E, o30K, o31, o31Z, o31E, o31K, o32, o32Z, o32E, o32K, o33, o33Z, o33E, o33K, p25⟩ := p25
            have f27 : fr S_Mod_readCellOfX_7 h h24 := fr_call f8 fh24 rfl
            have g34 : 0 ≤ o28Z ∧ o28Z ≤ 160 := inv_at hI26 o28E o28K.symm rfl
            have g35 : 0 ≤ o29Z ∧ o29Z ≤ 160 := inv_at hI26 o29E o29K.symm rfl
            refine V_istore_n 3 [some (.ref 116), some (.int 7), some (.int z4), some (.int z23), none] d_Mod_readCellOf_79 rfl (by decide) rfl rfl ?_
            refine V_iload_n 1 d_Mod_readCellOf_80 rfl rfl ?_
            refine V_iconst 4 d_Mod_readCellOf_81 (by decide) ?_
            refine V_icmp_ne 89 tc_7 tc_4 d_Mod_readCellOf_82 (by decide) (fun c36 => ?_) (fun c36 => ?_)
            ·
              refine V_iload_n 1 d_Mod_readCellOf_89 rfl rfl ?_
              refine V_bipush 6 d_Mod_readCellOf_90 (by decide) ?_
              refine V_icmp_ne 100 tc_7 tc_6 d_Mod_readCellOf_92 (by decide) (fun c37 => ?_) (fun c37 => ?_)
              ·
                refine V_bipush 48 d_Mod_readCellOf_100 (by decide) ?_
                refine V_istore 4 [some (.ref 116), some (.int 7), some (.int z4), some (.int z23), some (.int 48)] d_Mod_readCellOf_102 (by decide) rfl rfl ?_
                refine V_aload_n 0 d_Mod_readCellOf_104 rfl rfl ?_
                refine V_getR fa_Mod_17 sk_116 rfl d_Mod_readCellOf_105 ?_
                refine V_iload d_Mod_readCellOf_108 rfl ?_
                refine V_iload_n 2 d_Mod_readCellOf_110 rfl rfl ?_
                refine V_iadd tc_48 z4E (by (first | decide +kernel | omega)) d_Mod_readCellOf_111 (fun z38 z38e z38E => ?_)
                refine V_aload_n 0 d_Mod_readCellOf_112 rfl rfl ?_
                refine N_getK fa_Mod_102 sk_116 rfl d_Mod_readCellOf_113 o32K ?_
                refine V_if_ne 123 o32E d_Mod_readCellOf_116 (by decide) (fun c39 => ?_) (fun c39 => ?_)
                ·
                  refine V_aload_n 0 d_Mod_readCellOf_123 rfl rfl ?_
                  refine V_getR fa_Mod_17 sk_116 rfl d_Mod_readCellOf_124 ?_
                  refine V_iload d_Mod_readCellOf_127 rfl ?_
                  refine V_iload_n 2 d_Mod_readCellOf_129 rfl rfl ?_
                  refine V_iadd tc_48 z4E (by (first | decide +kernel | omega)) d_Mod_readCellOf_130 (fun z40 z40e z40E => ?_)
                  refine N_iald sk_119 z40E (by (first | decide +kernel | omega)) d_Mod_readCellOf_131 (fun z41 z41Z z41E z41e => ?_)
                  refine N_iast sk_119 z38E (by (first | decide +kernel | omega)) d_Mod_readCellOf_132 (fun h42 eh42 => ?_)
                  have hI43 : Inv h42 := inv_full hI26 eh42 (st_lo (by (first | decide +kernel | omega)))
                  have f44 : fr S_Mod_readCellOfX_7 h h42 := fr_put f27 eh42 rfl
                  exact V_vret rfl d_Mod_readCellOf_133 ⟨rfl, ⟨hI43, f44, o28, o28Z, o28E, (kn_ne eh42 o28K (by decide)), o29, o29Z, o29E, (kn_ne eh42 o29K (by decide)), o30, o30Z, o30E, (kn_ne eh42 o30K (by decide)), o31, o31Z, o31E, (kn_ne eh42 o31K (by decide)), o32, o32Z, o32E, (kn_ne eh42 o32K (by decide)), o33, o33Z, o33E, (kn_ne eh42 o33K (by decide)), ⟨Or.inl ⟨by (first | decide +kernel | omega), (show x_l4 b T p0 = (x_cN b p0 0 15, x_fr b p0) from by unfold x_l4; rw [x_sq_y (c := x_cN b p0 0 15) (by (first | decide +kernel | omega))]).trans (pq (by (first | decide +kernel | omega)) (by (first | decide +kernel | omega)))⟩, by (first | decide +kernel | omega), by (first | decide +kernel | omega), by (first | decide +kernel | omega)⟩⟩⟩
                ·
                  exact absurd c39 (by (first | decide +kernel | omega))
              ·
                exact absurd c37 (by decide)
            ·
              exact absurd c36 (by decide)
          ·
            exact absurd c22 (by decide)
        ·
          exact absurd c21 (by decide)
      ·
        exact absurd c20 (by decide)
    ·
      exact absurd c19 (by decide)
  ·
    replace p6 := And.intro ((p6.1.resolve_left (fun q => by (first | decide +kernel | omega))).resolve_right (fun q => by (first | decide +kernel | omega))) p6.2
    have g45 := x_c4_s (T 4 (x_vl b p0))
    refine V_iload_n 1 d_Mod_readCellOf_8 rfl rfl ?_
    refine V_iconst 5 d_Mod_readCellOf_9 (by decide) ?_
    refine V_icmp_ne 43 tc_7 tc_5 d_Mod_readCellOf_10 (by decide) (fun c46 => ?_) (fun c46 => ?_)
    ·
      refine V_aload_n 0 d_Mod_readCellOf_43 rfl rfl ?_
      refine V_iload_n 1 d_Mod_readCellOf_44 rfl rfl ?_
      refine V_iconst 4 d_Mod_readCellOf_45 (by decide) ?_
      refine V_icmp_ne 53 tc_7 tc_4 d_Mod_readCellOf_46 (by decide) (fun c47 => ?_) (fun c47 => ?_)
      ·
        refine V_iconst 0 d_Mod_readCellOf_53 (by decide) ?_
        refine V_iload_n 1 d_Mod_readCellOf_54 rfl rfl ?_
        refine V_iconst 4 d_Mod_readCellOf_55 (by decide) ?_
        refine V_icmp_ne 64 tc_7 tc_4 d_Mod_readCellOf_56 (by decide) (fun c48 => ?_) (fun c48 => ?_)
        ·
          refine V_iload_n 1 d_Mod_readCellOf_64 rfl rfl ?_
          refine V_bipush 6 d_Mod_readCellOf_65 (by decide) ?_
          refine V_icmp_ne 75 tc_7 tc_6 d_Mod_readCellOf_67 (by decide) (fun c49 => ?_) (fun c49 => ?_)
          ·
            refine V_iconst 3 d_Mod_readCellOf_75 (by decide) ?_
            refine N_callVI [.int 0, .int 3] [] cv_Mod_158 sk_116 rfl d_Mod_readCellOf_76 rfl (Nat.le_of_ble_eq_true rfl) (by decide) (by decide) (c_Mod_readNumberX h5 b (x_en b p0) hI7 0 0 tc_0 3 3 tc_3 s sZ sE (kn_call fh5 sK rfl) o9 o9Z o9E o9K o10 o10Z o10E o10K o11 o11Z o11E o11K o12 o12Z o12E o12K o13 o13Z o13E o13K o14 o14Z o14E o14K (TP_fr f8 (fun _ => rfl) hy0) (by (first | decide +kernel | omega)) (Or.inl (by (first | decide +kernel | omega)))) (fun z50 h51 z50Z z50E p52 => ?_)
            obtain ⟨hI53, fh51, o55, o55Z, o55E, o55K, o56, o56Z, o56E, o56K, o57, o57Z, o57E, o57K, o58, o58Z, o58E, o58K, o59, o59Z, o59E, o59K, o60, o60Z, o60E, o60K, p52⟩ := p52
            have f54 : fr S_Mod_readCellOfX_7 h h51 := fr_call f8 fh51 rfl
            have g61 : 0 ≤ o55Z ∧ o55Z ≤ 160 := inv_at hI53 o55E o55K.symm rfl
            have g62 : 0 ≤ o56Z ∧ o56Z ≤ 160 := inv_at hI53 o56E o56K.symm rfl
            refine V_istore_n 3 [some (.ref 116), some (.int 7), some (.int z4), some (.int z50), none] d_Mod_readCellOf_79 rfl (by decide) rfl rfl ?_
            refine V_iload_n 1 d_Mod_readCellOf_80 rfl rfl ?_
            refine V_iconst 4 d_Mod_readCellOf_81 (by decide) ?_
            refine V_icmp_ne 89 tc_7 tc_4 d_Mod_readCellOf_82 (by decide) (fun c63 => ?_) (fun c63 => ?_)
            ·
              refine V_iload_n 1 d_Mod_readCellOf_89 rfl rfl ?_
              refine V_bipush 6 d_Mod_readCellOf_90 (by decide) ?_
              refine V_icmp_ne 100 tc_7 tc_6 d_Mod_readCellOf_92 (by decide) (fun c64 => ?_) (fun c64 => ?_)
              ·
                refine V_bipush 48 d_Mod_readCellOf_100 (by decide) ?_
                refine V_istore 4 [some (.ref 116), some (.int 7), some (.int z4), some (.int z50), some (.int 48)] d_Mod_readCellOf_102 (by decide) rfl rfl ?_
                refine V_aload_n 0 d_Mod_readCellOf_104 rfl rfl ?_
                refine V_getR fa_Mod_17 sk_116 rfl d_Mod_readCellOf_105 ?_
                refine V_iload d_Mod_readCellOf_108 rfl ?_
                refine V_iload_n 2 d_Mod_readCellOf_110 rfl rfl ?_
                refine V_iadd tc_48 z4E (by (first | decide +kernel | omega)) d_Mod_readCellOf_111 (fun z65 z65e z65E => ?_)
                refine V_aload_n 0 d_Mod_readCellOf_112 rfl rfl ?_
                refine N_getK fa_Mod_102 sk_116 rfl d_Mod_readCellOf_113 o59K ?_
                refine V_if_ne 123 o59E d_Mod_readCellOf_116 (by decide) (fun c66 => ?_) (fun c66 => ?_)
                ·
                  refine V_aload_n 0 d_Mod_readCellOf_123 rfl rfl ?_
                  refine V_getR fa_Mod_17 sk_116 rfl d_Mod_readCellOf_124 ?_
                  refine V_iload d_Mod_readCellOf_127 rfl ?_
                  refine V_iload_n 2 d_Mod_readCellOf_129 rfl rfl ?_
                  refine V_iadd tc_48 z4E (by (first | decide +kernel | omega)) d_Mod_readCellOf_130 (fun z67 z67e z67E => ?_)
                  refine N_iald sk_119 z67E (by (first | decide +kernel | omega)) d_Mod_readCellOf_131 (fun z68 z68Z z68E z68e => ?_)
                  refine N_iast sk_119 z65E (by (first | decide +kernel | omega)) d_Mod_readCellOf_132 (fun h69 eh69 => ?_)
                  have hI70 : Inv h69 := inv_full hI53 eh69 (st_lo (by (first | decide +kernel | omega)))
                  have f71 : fr S_Mod_readCellOfX_7 h h69 := fr_put f54 eh69 rfl
                  exact V_vret rfl d_Mod_readCellOf_133 ⟨rfl, ⟨hI70, f71, o55, o55Z, o55E, (kn_ne eh69 o55K (by decide)), o56, o56Z, o56E, (kn_ne eh69 o56K (by decide)), o57, o57Z, o57E, (kn_ne eh69 o57K (by decide)), o58, o58Z, o58E, (kn_ne eh69 o58K (by decide)), o59, o59Z, o59E, (kn_ne eh69 o59K (by decide)), o60, o60Z, o60E, (kn_ne eh69 o60K (by decide)), ⟨Or.inl ⟨by (first | decide +kernel | omega), (show x_l4 b T p0 = (x_c4 (T 4 (x_vl b p0)), x_fr b p0) from by unfold x_l4; rw [x_sq_n (c := x_cN b p0 0 15) (by (first | decide +kernel | omega)), x_sq_y (c := x_c4 (T 4 (x_vl b p0))) (by (first | decide +kernel | omega))]).trans (pq (by (first | decide +kernel | omega)) (by (first | decide +kernel | omega)))⟩, by (first | decide +kernel | omega), by (first | decide +kernel | omega), by (first | decide +kernel | omega)⟩⟩⟩
                ·
                  exact absurd c66 (by (first | decide +kernel | omega))
              ·
                exact absurd c64 (by decide)
            ·
              exact absurd c63 (by decide)
          ·
            exact absurd c49 (by decide)
        ·
          exact absurd c48 (by decide)
      ·
        exact absurd c47 (by decide)
    ·
      exact absurd c46 (by decide)
  ·
    replace p6 := And.intro (((p6.1.resolve_left (fun q => by (first | decide +kernel | omega))).resolve_left (fun q => by (first | decide +kernel | omega))).2.2.2.1.resolve_right (fun q => by (first | decide +kernel | omega))) p6.2
    have g72 := x_cN_s b (x_en b p0) 0 3
    refine V_iload_n 1 d_Mod_readCellOf_8 rfl rfl ?_
    refine V_iconst 5 d_Mod_readCellOf_9 (by decide) ?_
    refine V_icmp_ne 43 tc_7 tc_5 d_Mod_readCellOf_10 (by decide) (fun c73 => ?_) (fun c73 => ?_)
    ·
      refine V_aload_n 0 d_Mod_readCellOf_43 rfl rfl ?_
      refine V_iload_n 1 d_Mod_readCellOf_44 rfl rfl ?_
      refine V_iconst 4 d_Mod_readCellOf_45 (by decide) ?_
      refine V_icmp_ne 53 tc_7 tc_4 d_Mod_readCellOf_46 (by decide) (fun c74 => ?_) (fun c74 => ?_)
      ·
        refine V_iconst 0 d_Mod_readCellOf_53 (by decide) ?_
        refine V_iload_n 1 d_Mod_readCellOf_54 rfl rfl ?_
        refine V_iconst 4 d_Mod_readCellOf_55 (by decide) ?_
        refine V_icmp_ne 64 tc_7 tc_4 d_Mod_readCellOf_56 (by decide) (fun c75 => ?_) (fun c75 => ?_)
        ·
          refine V_iload_n 1 d_Mod_readCellOf_64 rfl rfl ?_
          refine V_bipush 6 d_Mod_readCellOf_65 (by decide) ?_
          refine V_icmp_ne 75 tc_7 tc_6 d_Mod_readCellOf_67 (by decide) (fun c76 => ?_) (fun c76 => ?_)
          ·
            refine V_iconst 3 d_Mod_readCellOf_75 (by decide) ?_
            refine N_callVI [.int 0, .int 3] [] cv_Mod_158 sk_116 rfl d_Mod_readCellOf_76 rfl (Nat.le_of_ble_eq_true rfl) (by decide) (by decide) (c_Mod_readNumberX h5 b (x_en b p0) hI7 0 0 tc_0 3 3 tc_3 s sZ sE (kn_call fh5 sK rfl) o9 o9Z o9E o9K o10 o10Z o10E o10K o11 o11Z o11E o11K o12 o12Z o12E o12K o13 o13Z o13E o13K o14 o14Z o14E o14K (TP_fr f8 (fun _ => rfl) hy0) (by (first | decide +kernel | omega)) (Or.inl (by (first | decide +kernel | omega)))) (fun z77 h78 z77Z z77E p79 => ?_)
            obtain ⟨hI80, fh78, o82, o82Z, o82E, o82K, o83, o83Z, o83E, o83K, o84, o84Z, o84E, o84K, o85, o85Z, o85E, o85K, o86, o86Z, o86E, o86K, o87, o87Z, o87E, o87K, p79⟩ := p79
            have f81 : fr S_Mod_readCellOfX_7 h h78 := fr_call f8 fh78 rfl
            have g88 : 0 ≤ o82Z ∧ o82Z ≤ 160 := inv_at hI80 o82E o82K.symm rfl
            have g89 : 0 ≤ o83Z ∧ o83Z ≤ 160 := inv_at hI80 o83E o83K.symm rfl
            refine V_istore_n 3 [some (.ref 116), some (.int 7), some (.int z4), some (.int z77), none] d_Mod_readCellOf_79 rfl (by decide) rfl rfl ?_
            refine V_iload_n 1 d_Mod_readCellOf_80 rfl rfl ?_
            refine V_iconst 4 d_Mod_readCellOf_81 (by decide) ?_
            refine V_icmp_ne 89 tc_7 tc_4 d_Mod_readCellOf_82 (by decide) (fun c90 => ?_) (fun c90 => ?_)
            ·
              refine V_iload_n 1 d_Mod_readCellOf_89 rfl rfl ?_
              refine V_bipush 6 d_Mod_readCellOf_90 (by decide) ?_
              refine V_icmp_ne 100 tc_7 tc_6 d_Mod_readCellOf_92 (by decide) (fun c91 => ?_) (fun c91 => ?_)
              ·
                refine V_bipush 48 d_Mod_readCellOf_100 (by decide) ?_
                refine V_istore 4 [some (.ref 116), some (.int 7), some (.int z4), some (.int z77), some (.int 48)] d_Mod_readCellOf_102 (by decide) rfl rfl ?_
                refine V_aload_n 0 d_Mod_readCellOf_104 rfl rfl ?_
                refine V_getR fa_Mod_17 sk_116 rfl d_Mod_readCellOf_105 ?_
                refine V_iload d_Mod_readCellOf_108 rfl ?_
                refine V_iload_n 2 d_Mod_readCellOf_110 rfl rfl ?_
                refine V_iadd tc_48 z4E (by (first | decide +kernel | omega)) d_Mod_readCellOf_111 (fun z92 z92e z92E => ?_)
                refine V_aload_n 0 d_Mod_readCellOf_112 rfl rfl ?_
                refine N_getK fa_Mod_102 sk_116 rfl d_Mod_readCellOf_113 o86K ?_
                refine V_if_ne 123 o86E d_Mod_readCellOf_116 (by decide) (fun c93 => ?_) (fun c93 => ?_)
                ·
                  refine V_aload_n 0 d_Mod_readCellOf_123 rfl rfl ?_
                  refine V_getR fa_Mod_17 sk_116 rfl d_Mod_readCellOf_124 ?_
                  refine V_iload d_Mod_readCellOf_127 rfl ?_
                  refine V_iload_n 2 d_Mod_readCellOf_129 rfl rfl ?_
                  refine V_iadd tc_48 z4E (by (first | decide +kernel | omega)) d_Mod_readCellOf_130 (fun z94 z94e z94E => ?_)
                  refine N_iald sk_119 z94E (by (first | decide +kernel | omega)) d_Mod_readCellOf_131 (fun z95 z95Z z95E z95e => ?_)
                  refine N_iast sk_119 z92E (by (first | decide +kernel | omega)) d_Mod_readCellOf_132 (fun h96 eh96 => ?_)
                  have hI97 : Inv h96 := inv_full hI80 eh96 (st_lo (by (first | decide +kernel | omega)))
                  have f98 : fr S_Mod_readCellOfX_7 h h96 := fr_put f81 eh96 rfl
                  exact V_vret rfl d_Mod_readCellOf_133 ⟨rfl, ⟨hI97, f98, o82, o82Z, o82E, (kn_ne eh96 o82K (by decide)), o83, o83Z, o83E, (kn_ne eh96 o83K (by decide)), o84, o84Z, o84E, (kn_ne eh96 o84K (by decide)), o85, o85Z, o85E, (kn_ne eh96 o85K (by decide)), o86, o86Z, o86E, (kn_ne eh96 o86K (by decide)), o87, o87Z, o87E, (kn_ne eh96 o87K (by decide)), ⟨Or.inl ⟨by (first | decide +kernel | omega), (show x_l4 b T p0 = (x_cN b (x_en b p0) 0 3, x_fr b (x_en b p0)) from by unfold x_l4; rw [x_sq_n (c := x_cN b p0 0 15) (by (first | decide +kernel | omega)), x_sq_n (c := x_c4 (T 4 (x_vl b p0))) (by (first | decide +kernel | omega)), x_sq_y (c := x_cN b (x_en b p0) 0 3) (by (first | decide +kernel | omega))]).trans (pq (by (first | decide +kernel | omega)) (by (first | decide +kernel | omega)))⟩, by (first | decide +kernel | omega), by (first | decide +kernel | omega), by (first | decide +kernel | omega)⟩⟩⟩
                ·
                  exact absurd c93 (by (first | decide +kernel | omega))
              ·
                exact absurd c91 (by decide)
            ·
              exact absurd c90 (by decide)
          ·
            exact absurd c76 (by decide)
        ·
          exact absurd c75 (by decide)
      ·
        exact absurd c74 (by decide)
    ·
      exact absurd c73 (by decide)
  ·
    obtain ⟨p61, p62, p63, p64, p6R⟩ := ((p6.1.resolve_left (fun q => by (first | decide +kernel | omega))).resolve_left (fun q => by (first | decide +kernel | omega)))
    replace p6 := And.intro (p64.resolve_left (fun q => by (first | decide +kernel | omega))) p6.2
    clear p64
    refine V_iload_n 1 d_Mod_readCellOf_8 rfl rfl ?_
    refine V_iconst 5 d_Mod_readCellOf_9 (by decide) ?_
    refine V_icmp_ne 43 tc_7 tc_5 d_Mod_readCellOf_10 (by decide) (fun c99 => ?_) (fun c99 => ?_)
    ·
      refine V_aload_n 0 d_Mod_readCellOf_43 rfl rfl ?_
      refine V_iload_n 1 d_Mod_readCellOf_44 rfl rfl ?_
      refine V_iconst 4 d_Mod_readCellOf_45 (by decide) ?_
      refine V_icmp_ne 53 tc_7 tc_4 d_Mod_readCellOf_46 (by decide) (fun c100 => ?_) (fun c100 => ?_)
      ·
        refine V_iconst 0 d_Mod_readCellOf_53 (by decide) ?_
        refine V_iload_n 1 d_Mod_readCellOf_54 rfl rfl ?_
        refine V_iconst 4 d_Mod_readCellOf_55 (by decide) ?_
        refine V_icmp_ne 64 tc_7 tc_4 d_Mod_readCellOf_56 (by decide) (fun c101 => ?_) (fun c101 => ?_)
        ·
          refine V_iload_n 1 d_Mod_readCellOf_64 rfl rfl ?_
          refine V_bipush 6 d_Mod_readCellOf_65 (by decide) ?_
          refine V_icmp_ne 75 tc_7 tc_6 d_Mod_readCellOf_67 (by decide) (fun c102 => ?_) (fun c102 => ?_)
          ·
            refine V_iconst 3 d_Mod_readCellOf_75 (by decide) ?_
            refine N_callVI [.int 0, .int 3] [] cv_Mod_158 sk_116 rfl d_Mod_readCellOf_76 rfl (Nat.le_of_ble_eq_true rfl) (by decide) (by decide) (c_Mod_readNumberX h5 b (x_en b p0) hI7 0 0 tc_0 3 3 tc_3 s sZ sE (kn_call fh5 sK rfl) o9 o9Z o9E o9K o10 o10Z o10E o10K o11 o11Z o11E o11K o12 o12Z o12E o12K o13 o13Z o13E o13K o14 o14Z o14E o14K (TP_fr f8 (fun _ => rfl) hy0) (by (first | decide +kernel | omega)) (Or.inr ⟨by (first | decide +kernel | omega), by (first | decide +kernel | omega), by (first | decide +kernel | omega), by (first | decide +kernel | omega), by (first | decide +kernel | omega), by (first | decide +kernel | omega), by (first | decide +kernel | omega), by (first | decide +kernel | omega), by (first | decide +kernel | omega), by (first | decide +kernel | omega), by (first | decide +kernel | omega)⟩)) (fun z103 h104 z103Z z103E p105 => ?_)
            obtain ⟨hI106, fh104, o108, o108Z, o108E, o108K, o109, o109Z, o109E, o109K, o110, o110Z, o110E, o110K, o111, o111Z, o111E, o111K, o112, o112Z, o112E, o112K, o113, o113Z, o113E, o113K, p105⟩ := p105
            have f107 : fr S_Mod_readCellOfX_7 h h104 := fr_call f8 fh104 rfl
            have R114 : RM h104 (x_upT T 4 (x_vl b p0)) D := RM_fr fh104 rfl p6R
            have g115 : 0 ≤ o108Z ∧ o108Z ≤ 160 := inv_at hI106 o108E o108K.symm rfl
            have g116 : 0 ≤ o109Z ∧ o109Z ≤ 160 := inv_at hI106 o109E o109K.symm rfl
            rcases (dj3 _ _ : o112Z ≠ 0 ∧ x_cN b (x_en b p0) 0 3 ≠ 0 ∨ o112Z ≠ 0 ∧ x_cN b (x_en b p0) 0 3 = 0 ∨ o112Z = 0) with c117 | c117 | c117
            ·
              replace p105 := And.intro ((p105.1.resolve_left (fun q => by (first | decide +kernel | omega))).resolve_right (fun q => by (first | decide +kernel | omega))) p105.2
              have g118 := x_cN_s b (x_en b p0) 0 3
              have g119 := x_cS_s b (x_en b (x_en b p0))
              refine V_istore_n 3 [some (.ref 116), some (.int 7), some (.int z4), some (.int z103), none] d_Mod_readCellOf_79 rfl (by decide) rfl rfl ?_
              refine V_iload_n 1 d_Mod_readCellOf_80 rfl rfl ?_
              refine V_iconst 4 d_Mod_readCellOf_81 (by decide) ?_
              refine V_icmp_ne 89 tc_7 tc_4 d_Mod_readCellOf_82 (by decide) (fun c120 => ?_) (fun c120 => ?_)
              ·
                refine V_iload_n 1 d_Mod_readCellOf_89 rfl rfl ?_
                refine V_bipush 6 d_Mod_readCellOf_90 (by decide) ?_
                refine V_icmp_ne 100 tc_7 tc_6 d_Mod_readCellOf_92 (by decide) (fun c121 => ?_) (fun c121 => ?_)
                ·
                  refine V_bipush 48 d_Mod_readCellOf_100 (by decide) ?_
                  refine V_istore 4 [some (.ref 116), some (.int 7), some (.int z4), some (.int z103), some (.int 48)] d_Mod_readCellOf_102 (by decide) rfl rfl ?_
                  refine V_aload_n 0 d_Mod_readCellOf_104 rfl rfl ?_
                  refine V_getR fa_Mod_17 sk_116 rfl d_Mod_readCellOf_105 ?_
                  refine V_iload d_Mod_readCellOf_108 rfl ?_
                  refine V_iload_n 2 d_Mod_readCellOf_110 rfl rfl ?_
                  refine V_iadd tc_48 z4E (by (first | decide +kernel | omega)) d_Mod_readCellOf_111 (fun z122 z122e z122E => ?_)
                  refine V_aload_n 0 d_Mod_readCellOf_112 rfl rfl ?_
                  refine N_getK fa_Mod_102 sk_116 rfl d_Mod_readCellOf_113 o112K ?_
                  refine V_if_ne 123 o112E d_Mod_readCellOf_116 (by decide) (fun c123 => ?_) (fun c123 => ?_)
                  ·
                    refine V_aload_n 0 d_Mod_readCellOf_123 rfl rfl ?_
                    refine V_getR fa_Mod_17 sk_116 rfl d_Mod_readCellOf_124 ?_
                    refine V_iload d_Mod_readCellOf_127 rfl ?_
                    refine V_iload_n 2 d_Mod_readCellOf_129 rfl rfl ?_
                    refine V_iadd tc_48 z4E (by (first | decide +kernel | omega)) d_Mod_readCellOf_130 (fun z124 z124e z124E => ?_)
                    refine N_iald sk_119 z124E (by (first | decide +kernel | omega)) d_Mod_readCellOf_131 (fun z125 z125Z z125E z125e => ?_)
                    refine N_iast sk_119 z122E (by (first | decide +kernel | omega)) d_Mod_readCellOf_132 (fun h126 eh126 => ?_)
                    have hI127 : Inv h126 := inv_full hI106 eh126 (st_lo (by (first | decide +kernel | omega)))
                    have f128 : fr S_Mod_readCellOfX_7 h h126 := fr_put f107 eh126 rfl
                    exact V_vret rfl d_Mod_readCellOf_133 ⟨rfl, ⟨hI127, f128, o108, o108Z, o108E, (kn_ne eh126 o108K (by decide)), o109, o109Z, o109E, (kn_ne eh126 o109K (by decide)), o110, o110Z, o110E, (kn_ne eh126 o110K (by decide)), o111, o111Z, o111E, (kn_ne eh126 o111K (by decide)), o112, o112Z, o112E, (kn_ne eh126 o112K (by decide)), o113, o113Z, o113E, (kn_ne eh126 o113K (by decide)), ⟨Or.inl ⟨by (first | decide +kernel | omega), (show x_l4 b T p0 = (x_cN b (x_en b p0) 0 3, x_fr b (x_en b p0)) from by unfold x_l4; rw [x_sq_n (c := x_cN b p0 0 15) (by (first | decide +kernel | omega)), x_sq_n (c := x_c4 (T 4 (x_vl b p0))) (by (first | decide +kernel | omega)), x_sq_y (c := x_cN b (x_en b p0) 0 3) (by (first | decide +kernel | omega))]).trans (pq (by (first | decide +kernel | omega)) (by (first | decide +kernel | omega)))⟩, by (first | decide +kernel | omega), by (first | decide +kernel | omega), by (first | decide +kernel | omega)⟩⟩⟩
                  ·
                    exact absurd c123 (by (first | decide +kernel | omega))
                ·
                  exact absurd c121 (by decide)
              ·
                exact absurd c120 (by decide)
            ·
              replace p105 := And.intro ((p105.1.resolve_left (fun q => by (first | decide +kernel | omega))).resolve_left (fun q => by (first | decide +kernel | omega))).2.1 (And.intro ((p105.1.resolve_left (fun q => by (first | decide +kernel | omega))).resolve_left (fun q => by (first | decide +kernel | omega))).2.2.1 (And.intro (((p105.1.resolve_left (fun q => by (first | decide +kernel | omega))).resolve_left (fun q => by (first | decide +kernel | omega))).2.2.2.resolve_right (fun q => by (first | decide +kernel | omega))) p105.2))
              have g129 := x_cN_s b (x_en b p0) 0 3
              have g130 := x_cS_s b (x_en b (x_en b p0))
              refine V_istore_n 3 [some (.ref 116), some (.int 7), some (.int z4), some (.int z103), none] d_Mod_readCellOf_79 rfl (by decide) rfl rfl ?_
              refine V_iload_n 1 d_Mod_readCellOf_80 rfl rfl ?_
              refine V_iconst 4 d_Mod_readCellOf_81 (by decide) ?_
              refine V_icmp_ne 89 tc_7 tc_4 d_Mod_readCellOf_82 (by decide) (fun c131 => ?_) (fun c131 => ?_)
              ·
                refine V_iload_n 1 d_Mod_readCellOf_89 rfl rfl ?_
                refine V_bipush 6 d_Mod_readCellOf_90 (by decide) ?_
                refine V_icmp_ne 100 tc_7 tc_6 d_Mod_readCellOf_92 (by decide) (fun c132 => ?_) (fun c132 => ?_)
                ·
                  refine V_bipush 48 d_Mod_readCellOf_100 (by decide) ?_
                  refine V_istore 4 [some (.ref 116), some (.int 7), some (.int z4), some (.int z103), some (.int 48)] d_Mod_readCellOf_102 (by decide) rfl rfl ?_
                  refine V_aload_n 0 d_Mod_readCellOf_104 rfl rfl ?_
                  refine V_getR fa_Mod_17 sk_116 rfl d_Mod_readCellOf_105 ?_
                  refine V_iload d_Mod_readCellOf_108 rfl ?_
                  refine V_iload_n 2 d_Mod_readCellOf_110 rfl rfl ?_
                  refine V_iadd tc_48 z4E (by (first | decide +kernel | omega)) d_Mod_readCellOf_111 (fun z133 z133e z133E => ?_)
                  refine V_aload_n 0 d_Mod_readCellOf_112 rfl rfl ?_
                  refine N_getK fa_Mod_102 sk_116 rfl d_Mod_readCellOf_113 o112K ?_
                  refine V_if_ne 123 o112E d_Mod_readCellOf_116 (by decide) (fun c134 => ?_) (fun c134 => ?_)
                  ·
                    refine V_aload_n 0 d_Mod_readCellOf_123 rfl rfl ?_
                    refine V_getR fa_Mod_17 sk_116 rfl d_Mod_readCellOf_124 ?_
                    refine V_iload d_Mod_readCellOf_127 rfl ?_
                    refine V_iload_n 2 d_Mod_readCellOf_129 rfl rfl ?_
                    refine V_iadd tc_48 z4E (by (first | decide +kernel | omega)) d_Mod_readCellOf_130 (fun z135 z135e z135E => ?_)
                    refine N_iald sk_119 z135E (by (first | decide +kernel | omega)) d_Mod_readCellOf_131 (fun z136 z136Z z136E z136e => ?_)
                    refine N_iast sk_119 z133E (by (first | decide +kernel | omega)) d_Mod_readCellOf_132 (fun h137 eh137 => ?_)
                    have hI138 : Inv h137 := inv_full hI106 eh137 (st_lo (by (first | decide +kernel | omega)))
                    have f139 : fr S_Mod_readCellOfX_7 h h137 := fr_put f107 eh137 rfl
                    exact V_vret rfl d_Mod_readCellOf_133 ⟨rfl, ⟨hI138, f139, o108, o108Z, o108E, (kn_ne eh137 o108K (by decide)), o109, o109Z, o109E, (kn_ne eh137 o109K (by decide)), o110, o110Z, o110E, (kn_ne eh137 o110K (by decide)), o111, o111Z, o111E, (kn_ne eh137 o111K (by decide)), o112, o112Z, o112E, (kn_ne eh137 o112K (by decide)), o113, o113Z, o113E, (kn_ne eh137 o113K (by decide)), ⟨Or.inl ⟨by (first | decide +kernel | omega), (show x_l4 b T p0 = (x_cS b (x_en b (x_en b p0)), x_fr b (x_en b (x_en b p0))) from by unfold x_l4; rw [x_sq_n (c := x_cN b p0 0 15) (by (first | decide +kernel | omega)), x_sq_n (c := x_c4 (T 4 (x_vl b p0))) (by (first | decide +kernel | omega)), x_sq_n (c := x_cN b (x_en b p0) 0 3) (by (first | decide +kernel | omega)), x_sq_y (c := x_cS b (x_en b (x_en b p0))) (by (first | decide +kernel | omega))]).trans (pq (by (first | decide +kernel | omega)) (by (first | decide +kernel | omega)))⟩, by (first | decide +kernel | omega), by (first | decide +kernel | omega), by (first | decide +kernel | omega)⟩⟩⟩
                  ·
                    exact absurd c134 (by (first | decide +kernel | omega))
                ·
                  exact absurd c132 (by decide)
              ·
                exact absurd c131 (by decide)
            ·
              replace p105 := And.intro ((p105.1.resolve_left (fun q => by (first | decide +kernel | omega))).resolve_left (fun q => by (first | decide +kernel | omega))).2.1 (And.intro ((p105.1.resolve_left (fun q => by (first | decide +kernel | omega))).resolve_left (fun q => by (first | decide +kernel | omega))).2.2.1 (And.intro (((p105.1.resolve_left (fun q => by (first | decide +kernel | omega))).resolve_left (fun q => by (first | decide +kernel | omega))).2.2.2.resolve_left (fun q => by (first | decide +kernel | omega))) p105.2))
              refine V_istore_n 3 [some (.ref 116), some (.int 7), some (.int z4), some (.int z103), none] d_Mod_readCellOf_79 rfl (by decide) rfl rfl ?_
              refine V_iload_n 1 d_Mod_readCellOf_80 rfl rfl ?_
              refine V_iconst 4 d_Mod_readCellOf_81 (by decide) ?_
              refine V_icmp_ne 89 tc_7 tc_4 d_Mod_readCellOf_82 (by decide) (fun c140 => ?_) (fun c140 => ?_)
              ·
                refine V_iload_n 1 d_Mod_readCellOf_89 rfl rfl ?_
                refine V_bipush 6 d_Mod_readCellOf_90 (by decide) ?_
                refine V_icmp_ne 100 tc_7 tc_6 d_Mod_readCellOf_92 (by decide) (fun c141 => ?_) (fun c141 => ?_)
                ·
                  refine V_bipush 48 d_Mod_readCellOf_100 (by decide) ?_
                  refine V_istore 4 [some (.ref 116), some (.int 7), some (.int z4), some (.int z103), some (.int 48)] d_Mod_readCellOf_102 (by decide) rfl rfl ?_
                  refine V_aload_n 0 d_Mod_readCellOf_104 rfl rfl ?_
                  refine V_getR fa_Mod_17 sk_116 rfl d_Mod_readCellOf_105 ?_
                  refine V_iload d_Mod_readCellOf_108 rfl ?_
                  refine V_iload_n 2 d_Mod_readCellOf_110 rfl rfl ?_
                  refine V_iadd tc_48 z4E (by (first | decide +kernel | omega)) d_Mod_readCellOf_111 (fun z142 z142e z142E => ?_)
                  refine V_aload_n 0 d_Mod_readCellOf_112 rfl rfl ?_
                  refine N_getK fa_Mod_102 sk_116 rfl d_Mod_readCellOf_113 o112K ?_
                  refine V_if_ne 123 o112E d_Mod_readCellOf_116 (by decide) (fun c143 => ?_) (fun c143 => ?_)
                  ·
                    exact absurd c143 (by (first | decide +kernel | omega))
                  ·
                    refine V_iload_n 3 d_Mod_readCellOf_119 rfl rfl ?_
                    refine V_goto 132 d_Mod_readCellOf_120 (by decide) ?_
                    refine N_iast sk_119 z142E (by (first | decide +kernel | omega)) d_Mod_readCellOf_132 (fun h144 eh144 => ?_)
                    have hI145 : Inv h144 := inv_full hI106 eh144 (st_lo (by (first | decide +kernel | omega)))
                    have f146 : fr S_Mod_readCellOfX_7 h h144 := fr_put f107 eh144 rfl
                    have R147 : RM h144 (x_upT T 4 (x_vl b p0)) (x_up D (48 + (x_vl b p0)) (x_vl b (x_en b p0))) := RM_put R114 eh144 (Or.inl ⟨rfl, by (first | decide +kernel | omega), rfl⟩) (z103E.trans (by (first | decide +kernel | omega))) (by (first | decide +kernel | omega))
                    exact V_vret rfl d_Mod_readCellOf_133 ⟨rfl, ⟨hI145, f146, o108, o108Z, o108E, (kn_ne eh144 o108K (by decide)), o109, o109Z, o109E, (kn_ne eh144 o109K (by decide)), o110, o110Z, o110E, (kn_ne eh144 o110K (by decide)), o111, o111Z, o111E, (kn_ne eh144 o111K (by decide)), o112, o112Z, o112E, (kn_ne eh144 o112K (by decide)), o113, o113Z, o113E, (kn_ne eh144 o113K (by decide)), ⟨Or.inr ⟨by (first | decide +kernel | omega), by unfold x_l4; rw [x_sq_n (c := x_cN b p0 0 15) (by (first | decide +kernel | omega)), x_sq_n (c := x_c4 (T 4 (x_vl b p0))) (by (first | decide +kernel | omega)), x_sq_n (c := x_cN b (x_en b p0) 0 3) (by (first | decide +kernel | omega))], p105.2.2.1.2, R147⟩, by (first | decide +kernel | omega), by (first | decide +kernel | omega), by (first | decide +kernel | omega)⟩⟩⟩
                ·
                  exact absurd c141 (by decide)
              ·
                exact absurd c140 (by decide)
          ·
            exact absurd c102 (by decide)
        ·
          exact absurd c101 (by decide)
      ·
        exact absurd c100 (by decide)
    ·
      exact absurd c99 (by decide)
end
section
theorem x_cN_0 {b : Int → Int} {p lo hi : Int} (h : x_cN b p lo hi = 0) : x_kd b p = 2 ∧ lo ≤ x_vl b p ∧ x_vl b p ≤ hi := by have := x_cN_s b p lo hi; omega
theorem x_cN_4 {b : Int → Int} {p : Int} (lo hi : Int) (h : x_kd b p = 4) : x_cN b p lo hi = 1 := by have := x_cN_s b p lo hi; omega
theorem x_cS_4 {b : Int → Int} {p : Int} (h : x_kd b p = 4) : x_cS b p = 1 := by have := x_cS_s b p; omega
theorem lk_num {b : Int → Int} {p lo hi k v w u y a f r : Int} (hk : k = x_kd b p) (h4 : k ≠ 4) (hv : k ≠ 2 ∨ v = x_vl b p) (hw : w = 0) (h : w ≠ 0 ∧ u = w ∧ y = a ∧ r = 0 ∨ w = 0 ∧ k ≠ 2 ∧ u = 2 ∧ y = f ∧ r = 0 ∨ w = 0 ∧ k = 2 ∧ (v < lo ∨ hi < v) ∧ u = 3 ∧ y = f ∧ r = 0 ∨ w = 0 ∧ k = 2 ∧ lo ≤ v ∧ v ≤ hi ∧ u = 0 ∧ y = a ∧ r = v) : x_cN b p lo hi ≠ 0 ∧ u = x_cN b p lo hi ∧ y = f ∧ r = 0 ∧ 0 ≤ u ∨ x_cN b p lo hi = 0 ∧ u = 0 ∧ y = a ∧ r = x_vl b p := by
  have q := x_cN_s b p lo hi
  rcases h with h | h | h | h
  · omega
  · left; omega
  · left; omega
  · right; omega
end
section
def S_Mod_readRodX : List (Nat × Option Nat) := [(116, some 16), (116, some 17), (116, some 18), (116, some 19), (116, some 20), (116, some 21), (119, none)]
abbrev q_Mod_readRodX (h : Hp) (b : Int → Int) (T : Nat → Int → Int) (D : Nat → Int) (p0 : Int) (s : Int32) (sZ : Int) (p : Int32) (pZ : Int) (g : Int32) (gZ : Int) (k : Int32) (kZ : Int) (v : Int32) (vZ : Int) (w : Int32) (wZ : Int) (a : Int32) (aZ : Int) : Option Value → Hp → Prop := pVd (fun h' => Inv h' ∧ fr S_Mod_readRodX h h' ∧ ∃ (q : Int32) (qZ : Int), q.toInt = qZ ∧ h'.1 116 16 = q ∧ ∃ (f : Int32) (fZ : Int), f.toInt = fZ ∧ h'.1 116 17 = f ∧ ∃ (m : Int32) (mZ : Int), m.toInt = mZ ∧ h'.1 116 18 = m ∧ ∃ (x : Int32) (xZ : Int), x.toInt = xZ ∧ h'.1 116 19 = x ∧ ∃ (u : Int32) (uZ : Int), u.toInt = uZ ∧ h'.1 116 20 = u ∧ ∃ (y : Int32) (yZ : Int), y.toInt = yZ ∧ h'.1 116 21 = y ∧ ((uZ ≠ 0 ∧ x_l8 b T p0 = (uZ, yZ) ∨ uZ = 0 ∧ x_l8 b T p0 = x_sq (x_cS b (x_en b (x_en b p0))) (x_fr b (x_en b (x_en b p0))) (0, x_en b (x_en b (x_en b p0))) ∧ (fZ = x_fr b (x_en b (x_en b p0)) ∧ mZ = x_kd b (x_en b (x_en b p0)) ∧ mZ ≠ 4 ∧ 0 ≤ mZ ∧ mZ ≤ 3 ∧ qZ = x_en b (x_en b (x_en b p0)) ∧ (mZ ≠ 2 ∨ xZ = x_vl b (x_en b (x_en b p0)) ∧ 0 ≤ xZ ∧ xZ ≤ 99) ∧ (x_en b (x_en b p0)) ≤ fZ ∧ fZ ≤ qZ ∧ qZ ≤ sZ ∧ (mZ = 0 ∨ fZ < qZ)) ∧ RM h' T (x_up (x_up D 84 (x_nn b p0)) 85 (x_vl b (x_en b p0)))) ∧ 0 ≤ qZ ∧ qZ ≤ sZ ∧ 0 ≤ uZ))
set_option maxRecDepth 100000 in
theorem c_Mod_readRodX (h : Hp) (b : Int → Int) (T : Nat → Int → Int) (D : Nat → Int) (p0 : Int) (hI : Inv h) (s : Int32) (sZ : Int) (sE : s.toInt = sZ) (sK : h.1 116 15 = s) (p : Int32) (pZ : Int) (pE : p.toInt = pZ) (pK : h.1 116 16 = p) (g : Int32) (gZ : Int) (gE : g.toInt = gZ) (gK : h.1 116 17 = g) (k : Int32) (kZ : Int) (kE : k.toInt = kZ) (kK : h.1 116 18 = k) (v : Int32) (vZ : Int) (vE : v.toInt = vZ) (vK : h.1 116 19 = v) (w : Int32) (wZ : Int) (wE : w.toInt = wZ) (wK : h.1 116 20 = w) (a : Int32) (aZ : Int) (aE : a.toInt = aZ) (aK : h.1 116 21 = a) (hy0 : TP h 121 sZ b) (hy1 : 0 ≤ pZ ∧ pZ ≤ sZ ∧ wZ = 0) (hy2 : gZ = x_fr b p0 ∧ kZ = x_kd b p0 ∧ kZ ≠ 4 ∧ 0 ≤ kZ ∧ kZ ≤ 3 ∧ pZ = x_en b p0 ∧ (kZ ≠ 2 ∨ vZ = x_vl b p0 ∧ 0 ≤ vZ ∧ vZ ≤ 99) ∧ p0 ≤ gZ ∧ gZ ≤ pZ ∧ pZ ≤ sZ ∧ (kZ = 0 ∨ gZ < pZ)) (hy3 : RM h T D) : Ct y_Mod_readRod b_Mod_readRod 2 none 3 70 [.ref 116] h (q_Mod_readRodX h b T D p0 s sZ p pZ g gZ k kZ v vZ w wZ a aZ) := by
  refine ct_ow R_Mod [some (.ref 116), none] rfl (by decide) rfl (Nat.le_of_ble_eq_true rfl) ?_
  have f0 : fr S_Mod_readRodX h h := fr_rf
  have g1 : 0 ≤ sZ ∧ sZ ≤ 160 := inv_at hI sE sK.symm rfl
  have g2 : 0 ≤ pZ ∧ pZ ≤ 160 := inv_at hI pE pK.symm rfl
  have g3 : 0 ≤ gZ ∧ gZ ≤ 160 := inv_at hI gE gK.symm rfl
  refine V_aload_n 0 d_Mod_readRod_0 rfl rfl ?_
  refine N_getK fa_Mod_102 sk_116 rfl d_Mod_readRod_1 wK ?_
  refine V_if_ne 22 wE d_Mod_readRod_4 (by decide) (fun c4 => ?_) (fun c4 => ?_)
  ·
    refine V_bipush (-4) d_Mod_readRod_22 (by decide) ?_
    refine V_istore_n 1 [some (.ref 116), some (.int (-4))] d_Mod_readRod_24 rfl (by decide) rfl rfl ?_
    have g5 : x_nn b p0 = x_nt b gZ pZ := by unfold x_nn; rw [show gZ = x_fr b p0 by (first | decide +kernel | omega), show pZ = x_en b p0 by (first | decide +kernel | omega)]
    have g6 := x_cK_s b p0
    have g7 : x_fr b pZ = x_fr b (x_en b p0) := congrArg (x_fr b) (by (first | decide +kernel | omega))
    have g8 : x_kd b pZ = x_kd b (x_en b p0) := congrArg (x_kd b) (by (first | decide +kernel | omega))
    have g9 : x_en b pZ = x_en b (x_en b p0) := congrArg (x_en b) (by (first | decide +kernel | omega))
    have g10 : x_vl b pZ = x_vl b (x_en b p0) := congrArg (x_vl b) (by (first | decide +kernel | omega))
    refine V_aload_n 0 d_Mod_readRod_25 rfl rfl ?_
    refine V_iload_n 1 d_Mod_readRod_26 rfl rfl ?_
    refine V_bipush (-4) d_Mod_readRod_27 (by decide) ?_
    refine V_icmp_eq 36 tc_m4 tc_m4 d_Mod_readRod_29 (by decide) (fun c11 => ?_) (fun c11 => ?_)
    ·
      refine V_iconst 0 d_Mod_readRod_36 (by decide) ?_
      refine V_iconst 2 d_Mod_readRod_37 (by decide) ?_
      refine N_callVV [.int 0, .int 2] [] cv_Mod_144 sk_116 rfl d_Mod_readRod_38 rfl (Nat.le_of_ble_eq_true rfl) (by decide) (by decide) (c_Mod_needsX h hI 0 0 tc_0 2 2 tc_2 g gZ gE gK w wZ wE wK a aZ aE aK) (fun h13 p14 => ?_)
      obtain ⟨hI15, fh13, o17, o17Z, o17E, o17K, o18, o18Z, o18E, o18K, p14⟩ := p14
      have f16 : fr S_Mod_readRodX h h13 := fr_call f0 fh13 rfl
      refine V_aload_n 0 d_Mod_readRod_41 rfl rfl ?_
      refine N_callVV [] [] cv_Mod_152 sk_116 rfl d_Mod_readRod_42 rfl (Nat.le_of_ble_eq_true rfl) (by decide) (by decide) (c_Mod_nextX h13 b hI15 s sZ sE (kn_call fh13 sK rfl) p pZ pE (kn_call fh13 pK rfl) g gZ gE (kn_call fh13 gK rfl) k kZ kE (kn_call fh13 kK rfl) v vZ vE (kn_call fh13 vK rfl) o17 o17Z o17E o17K o18 o18Z o18E o18K (TP_fr f16 (fun _ => rfl) hy0) (by (first | decide +kernel | omega))) (fun h20 p21 => ?_)
      obtain ⟨hI22, fh20, o24, o24Z, o24E, o24K, o25, o25Z, o25E, o25K, o26, o26Z, o26E, o26K, o27, o27Z, o27E, o27K, o28, o28Z, o28E, o28K, o29, o29Z, o29E, o29K, p21⟩ := p21
      have f23 : fr S_Mod_readRodX h h20 := fr_call f16 fh20 rfl
      have g30 : 0 ≤ o24Z ∧ o24Z ≤ 160 := inv_at hI22 o24E o24K.symm rfl
      have g31 : 0 ≤ o25Z ∧ o25Z ≤ 160 := inv_at hI22 o25E o25K.symm rfl
      refine V_aload_n 0 d_Mod_readRod_45 rfl rfl ?_
      refine V_getR fa_Mod_17 sk_116 rfl d_Mod_readRod_46 ?_
      refine V_bipush 84 d_Mod_readRod_49 (by decide) ?_
      refine V_iload_n 1 d_Mod_readRod_51 rfl rfl ?_
      refine N_iast sk_119 tc_84 (by (first | decide +kernel | omega)) d_Mod_readRod_52 (fun h32 eh32 => ?_)
      have hI33 : Inv h32 := inv_full hI22 eh32 rfl
      have f34 : fr S_Mod_readRodX h h32 := fr_put f23 eh32 rfl
      refine V_aload_n 0 d_Mod_readRod_53 rfl rfl ?_
      refine V_getR fa_Mod_17 sk_116 rfl d_Mod_readRod_54 ?_
      refine V_bipush 85 d_Mod_readRod_57 (by decide) ?_
      refine V_aload_n 0 d_Mod_readRod_59 rfl rfl ?_
      refine V_iconst 1 d_Mod_readRod_60 (by decide) ?_
      refine V_bipush 9 d_Mod_readRod_61 (by decide) ?_
      refine N_callVI [.int 1, .int 9] [.int 85, .ref 119] cv_Mod_158 sk_116 rfl d_Mod_readRod_63 rfl (Nat.le_of_ble_eq_true rfl) (by decide) (by decide) (c_Mod_readNumberX h32 b (x_en b p0) hI33 1 1 tc_1 9 9 tc_9 s sZ sE (kn_ne eh32 (kn_call fh20 (kn_call fh13 sK rfl) rfl) (by decide)) o24 o24Z o24E (kn_ne eh32 o24K (by decide)) o25 o25Z o25E (kn_ne eh32 o25K (by decide)) o26 o26Z o26E (kn_ne eh32 o26K (by decide)) o27 o27Z o27E (kn_ne eh32 o27K (by decide)) o28 o28Z o28E (kn_ne eh32 o28K (by decide)) o29 o29Z o29E (kn_ne eh32 o29K (by decide)) (TP_fr f34 (fun _ => rfl) hy0) (by (first | decide +kernel | omega)) (Or.inl (by (first | decide +kernel | omega)))) (fun z35 h36 z35Z z35E p37 => ?_)
      obtain ⟨hI38, fh36, o40, o40Z, o40E, o40K, o41, o41Z, o41E, o41K, o42, o42Z, o42E, o42K, o43, o43Z, o43E, o43K, o44, o44Z, o44E, o44K, o45, o45Z, o45E, o45K, p37⟩ := p37
      have f39 : fr S_Mod_readRodX h h36 := fr_call f34 fh36 rfl
      have g46 : 0 ≤ o40Z ∧ o40Z ≤ 160 := inv_at hI38 o40E o40K.symm rfl
      have g47 : 0 ≤ o41Z ∧ o41Z ≤ 160 := inv_at hI38 o41E o41K.symm rfl
      replace p37 := And.intro (p37.1.resolve_right (fun q => by (first | decide +kernel | omega))) p37.2
      refine N_iast sk_119 tc_85 (by (first | decide +kernel | omega)) d_Mod_readRod_66 (fun h48 eh48 => ?_)
      have hI49 : Inv h48 := inv_full hI38 eh48 rfl
      have f50 : fr S_Mod_readRodX h h48 := fr_put f39 eh48 rfl
      exact V_vret rfl d_Mod_readRod_67 ⟨rfl, ⟨hI49, f50, o40, o40Z, o40E, (kn_ne eh48 o40K (by decide)), o41, o41Z, o41E, (kn_ne eh48 o41K (by decide)), o42, o42Z, o42E, (kn_ne eh48 o42K (by decide)), o43, o43Z, o43E, (kn_ne eh48 o43K (by decide)), o44, o44Z, o44E, (kn_ne eh48 o44K (by decide)), o45, o45Z, o45E, (kn_ne eh48 o45K (by decide)), ⟨Or.inl ⟨by (first | decide +kernel | omega), (show x_l8 b T p0 = (x_cK b p0, x_fr b p0) from by unfold x_l8; rw [x_sq_y (c := x_cK b p0) (by (first | decide +kernel | omega))]).trans (pq (by (first | decide +kernel | omega)) (by (first | decide +kernel | omega)))⟩, by (first | decide +kernel | omega), by (first | decide +kernel | omega), by (first | decide +kernel | omega)⟩⟩⟩
    ·
      exact absurd c11 (by decide)
  ·
    refine V_aload_n 0 d_Mod_readRod_7 rfl rfl ?_
    refine N_getK fa_Mod_130 sk_116 rfl d_Mod_readRod_8 kK ?_
    refine V_iconst 1 d_Mod_readRod_11 (by decide) ?_
    refine V_icmp_ne 22 kE tc_1 d_Mod_readRod_12 (by decide) (fun c51 => ?_) (fun c51 => ?_)
    ·
      refine V_bipush (-4) d_Mod_readRod_22 (by decide) ?_
      refine V_istore_n 1 [some (.ref 116), some (.int (-4))] d_Mod_readRod_24 rfl (by decide) rfl rfl ?_
      have g52 : x_nn b p0 = x_nt b gZ pZ := by unfold x_nn; rw [show gZ = x_fr b p0 by (first | decide +kernel | omega), show pZ = x_en b p0 by (first | decide +kernel | omega)]
      have g53 := x_cK_s b p0
      have g54 : x_fr b pZ = x_fr b (x_en b p0) := congrArg (x_fr b) (by (first | decide +kernel | omega))
      have g55 : x_kd b pZ = x_kd b (x_en b p0) := congrArg (x_kd b) (by (first | decide +kernel | omega))
      have g56 : x_en b pZ = x_en b (x_en b p0) := congrArg (x_en b) (by (first | decide +kernel | omega))
      have g57 : x_vl b pZ = x_vl b (x_en b p0) := congrArg (x_vl b) (by (first | decide +kernel | omega))
      refine V_aload_n 0 d_Mod_readRod_25 rfl rfl ?_
      refine V_iload_n 1 d_Mod_readRod_26 rfl rfl ?_
      refine V_bipush (-4) d_Mod_readRod_27 (by decide) ?_
      refine V_icmp_eq 36 tc_m4 tc_m4 d_Mod_readRod_29 (by decide) (fun c58 => ?_) (fun c58 => ?_)
      ·
        refine V_iconst 0 d_Mod_readRod_36 (by decide) ?_
        refine V_iconst 2 d_Mod_readRod_37 (by decide) ?_
        refine N_callVV [.int 0, .int 2] [] cv_Mod_144 sk_116 rfl d_Mod_readRod_38 rfl (Nat.le_of_ble_eq_true rfl) (by decide) (by decide) (c_Mod_needsX h hI 0 0 tc_0 2 2 tc_2 g gZ gE gK w wZ wE wK a aZ aE aK) (fun h60 p61 => ?_)
        obtain ⟨hI62, fh60, o64, o64Z, o64E, o64K, o65, o65Z, o65E, o65K, p61⟩ := p61
        have f63 : fr S_Mod_readRodX h h60 := fr_call f0 fh60 rfl
        refine V_aload_n 0 d_Mod_readRod_41 rfl rfl ?_
        refine N_callVV [] [] cv_Mod_152 sk_116 rfl d_Mod_readRod_42 rfl (Nat.le_of_ble_eq_true rfl) (by decide) (by decide) (c_Mod_nextX h60 b hI62 s sZ sE (kn_call fh60 sK rfl) p pZ pE (kn_call fh60 pK rfl) g gZ gE (kn_call fh60 gK rfl) k kZ kE (kn_call fh60 kK rfl) v vZ vE (kn_call fh60 vK rfl) o64 o64Z o64E o64K o65 o65Z o65E o65K (TP_fr f63 (fun _ => rfl) hy0) (by (first | decide +kernel | omega))) (fun h67 p68 => ?_)
        obtain ⟨hI69, fh67, o71, o71Z, o71E, o71K, o72, o72Z, o72E, o72K, o73, o73Z, o73E, o73K, o74, o74Z, o74E, o74K, o75, o75Z, o75E, o75K, o76, o76Z, o76E, o76K, p68⟩ := p68
        have f70 : fr S_Mod_readRodX h h67 := fr_call f63 fh67 rfl
        have g77 : 0 ≤ o71Z ∧ o71Z ≤ 160 := inv_at hI69 o71E o71K.symm rfl
        have g78 : 0 ≤ o72Z ∧ o72Z ≤ 160 := inv_at hI69 o72E o72K.symm rfl
        refine V_aload_n 0 d_Mod_readRod_45 rfl rfl ?_
        refine V_getR fa_Mod_17 sk_116 rfl d_Mod_readRod_46 ?_
        refine V_bipush 84 d_Mod_readRod_49 (by decide) ?_
        refine V_iload_n 1 d_Mod_readRod_51 rfl rfl ?_
        refine N_iast sk_119 tc_84 (by (first | decide +kernel | omega)) d_Mod_readRod_52 (fun h79 eh79 => ?_)
        have hI80 : Inv h79 := inv_full hI69 eh79 rfl
        have f81 : fr S_Mod_readRodX h h79 := fr_put f70 eh79 rfl
        refine V_aload_n 0 d_Mod_readRod_53 rfl rfl ?_
        refine V_getR fa_Mod_17 sk_116 rfl d_Mod_readRod_54 ?_
        refine V_bipush 85 d_Mod_readRod_57 (by decide) ?_
        refine V_aload_n 0 d_Mod_readRod_59 rfl rfl ?_
        refine V_iconst 1 d_Mod_readRod_60 (by decide) ?_
        refine V_bipush 9 d_Mod_readRod_61 (by decide) ?_
        refine N_callVI [.int 1, .int 9] [.int 85, .ref 119] cv_Mod_158 sk_116 rfl d_Mod_readRod_63 rfl (Nat.le_of_ble_eq_true rfl) (by decide) (by decide) (c_Mod_readNumberX h79 b (x_en b p0) hI80 1 1 tc_1 9 9 tc_9 s sZ sE (kn_ne eh79 (kn_call fh67 (kn_call fh60 sK rfl) rfl) (by decide)) o71 o71Z o71E (kn_ne eh79 o71K (by decide)) o72 o72Z o72E (kn_ne eh79 o72K (by decide)) o73 o73Z o73E (kn_ne eh79 o73K (by decide)) o74 o74Z o74E (kn_ne eh79 o74K (by decide)) o75 o75Z o75E (kn_ne eh79 o75K (by decide)) o76 o76Z o76E (kn_ne eh79 o76K (by decide)) (TP_fr f81 (fun _ => rfl) hy0) (by (first | decide +kernel | omega)) (Or.inl (by (first | decide +kernel | omega)))) (fun z82 h83 z82Z z82E p84 => ?_)
        obtain ⟨hI85, fh83, o87, o87Z, o87E, o87K, o88, o88Z, o88E, o88K, o89, o89Z, o89E, o89K, o90, o90Z, o90E, o90K, o91, o91Z, o91E, o91K, o92, o92Z, o92E, o92K, p84⟩ := p84
        have f86 : fr S_Mod_readRodX h h83 := fr_call f81 fh83 rfl
        have g93 : 0 ≤ o87Z ∧ o87Z ≤ 160 := inv_at hI85 o87E o87K.symm rfl
        have g94 : 0 ≤ o88Z ∧ o88Z ≤ 160 := inv_at hI85 o88E o88K.symm rfl
        replace p84 := And.intro (p84.1.resolve_right (fun q => by (first | decide +kernel | omega))) p84.2
        refine N_iast sk_119 tc_85 (by (first | decide +kernel | omega)) d_Mod_readRod_66 (fun h95 eh95 => ?_)
        have hI96 : Inv h95 := inv_full hI85 eh95 rfl
        have f97 : fr S_Mod_readRodX h h95 := fr_put f86 eh95 rfl
        exact V_vret rfl d_Mod_readRod_67 ⟨rfl, ⟨hI96, f97, o87, o87Z, o87E, (kn_ne eh95 o87K (by decide)), o88, o88Z, o88E, (kn_ne eh95 o88K (by decide)), o89, o89Z, o89E, (kn_ne eh95 o89K (by decide)), o90, o90Z, o90E, (kn_ne eh95 o90K (by decide)), o91, o91Z, o91E, (kn_ne eh95 o91K (by decide)), o92, o92Z, o92E, (kn_ne eh95 o92K (by decide)), ⟨Or.inl ⟨by (first | decide +kernel | omega), (show x_l8 b T p0 = (x_cK b p0, x_fr b p0) from by unfold x_l8; rw [x_sq_y (c := x_cK b p0) (by (first | decide +kernel | omega))]).trans (pq (by (first | decide +kernel | omega)) (by (first | decide +kernel | omega)))⟩, by (first | decide +kernel | omega), by (first | decide +kernel | omega), by (first | decide +kernel | omega)⟩⟩⟩
      ·
        exact absurd c58 (by decide)
    ·
      refine V_aload_n 0 d_Mod_readRod_15 rfl rfl ?_
      refine N_callVI [] [] cv_Mod_155 sk_116 rfl d_Mod_readRod_16 rfl (Nat.le_of_ble_eq_true rfl) (by decide) (by decide) (c_Mod_natureNowX h b hI s sZ sE sK p pZ pE pK g gZ gE gK (TP_fr f0 (fun _ => rfl) hy0) (by (first | decide +kernel | omega)) (by (first | decide +kernel | omega))) (fun z98 h99 z98Z z98E p100 => ?_)
      obtain ⟨eh99, p100⟩ := p100
      subst eh99
      refine V_goto 24 d_Mod_readRod_19 (by decide) ?_
      refine V_istore_n 1 [some (.ref 116), some (.int z98)] d_Mod_readRod_24 rfl (by decide) rfl rfl ?_
      have g101 : x_nn b p0 = x_nt b gZ pZ := by unfold x_nn; rw [show gZ = x_fr b p0 by (first | decide +kernel | omega), show pZ = x_en b p0 by (first | decide +kernel | omega)]
      have g102 := x_cK_s b p0
      have g103 : x_fr b pZ = x_fr b (x_en b p0) := congrArg (x_fr b) (by (first | decide +kernel | omega))
      have g104 : x_kd b pZ = x_kd b (x_en b p0) := congrArg (x_kd b) (by (first | decide +kernel | omega))
      have g105 : x_en b pZ = x_en b (x_en b p0) := congrArg (x_en b) (by (first | decide +kernel | omega))
      have g106 : x_vl b pZ = x_vl b (x_en b p0) := congrArg (x_vl b) (by (first | decide +kernel | omega))
      refine V_aload_n 0 d_Mod_readRod_25 rfl rfl ?_
      refine V_iload_n 1 d_Mod_readRod_26 rfl rfl ?_
      refine V_bipush (-4) d_Mod_readRod_27 (by decide) ?_
      refine V_icmp_eq 36 z98E tc_m4 d_Mod_readRod_29 (by decide) (fun c107 => ?_) (fun c107 => ?_)
      ·
        refine V_iconst 0 d_Mod_readRod_36 (by decide) ?_
        refine V_iconst 2 d_Mod_readRod_37 (by decide) ?_
        refine N_callVV [.int 0, .int 2] [] cv_Mod_144 sk_116 rfl d_Mod_readRod_38 rfl (Nat.le_of_ble_eq_true rfl) (by decide) (by decide) (c_Mod_needsX h hI 0 0 tc_0 2 2 tc_2 g gZ gE gK w wZ wE wK a aZ aE aK) (fun h109 p110 => ?_)
        obtain ⟨hI111, fh109, o113, o113Z, o113E, o113K, o114, o114Z, o114E, o114K, p110⟩ := p110
        have f112 : fr S_Mod_readRodX h h109 := fr_call f0 fh109 rfl
        refine V_aload_n 0 d_Mod_readRod_41 rfl rfl ?_
        refine N_callVV [] [] cv_Mod_152 sk_116 rfl d_Mod_readRod_42 rfl (Nat.le_of_ble_eq_true rfl) (by decide) (by decide) (c_Mod_nextX h109 b hI111 s sZ sE (kn_call fh109 sK rfl) p pZ pE (kn_call fh109 pK rfl) g gZ gE (kn_call fh109 gK rfl) k kZ kE (kn_call fh109 kK rfl) v vZ vE (kn_call fh109 vK rfl) o113 o113Z o113E o113K o114 o114Z o114E o114K (TP_fr f112 (fun _ => rfl) hy0) (by (first | decide +kernel | omega))) (fun h116 p117 => ?_)
        obtain ⟨hI118, fh116, o120, o120Z, o120E, o120K, o121, o121Z, o121E, o121K, o122, o122Z, o122E, o122K, o123, o123Z, o123E, o123K, o124, o124Z, o124E, o124K, o125, o125Z, o125E, o125K, p117⟩ := p117
        have f119 : fr S_Mod_readRodX h h116 := fr_call f112 fh116 rfl
        have g126 : 0 ≤ o120Z ∧ o120Z ≤ 160 := inv_at hI118 o120E o120K.symm rfl
        have g127 : 0 ≤ o121Z ∧ o121Z ≤ 160 := inv_at hI118 o121E o121K.symm rfl
        refine V_aload_n 0 d_Mod_readRod_45 rfl rfl ?_
        refine V_getR fa_Mod_17 sk_116 rfl d_Mod_readRod_46 ?_
        refine V_bipush 84 d_Mod_readRod_49 (by decide) ?_
        refine V_iload_n 1 d_Mod_readRod_51 rfl rfl ?_
        refine N_iast sk_119 tc_84 (by (first | decide +kernel | omega)) d_Mod_readRod_52 (fun h128 eh128 => ?_)
        have hI129 : Inv h128 := inv_full hI118 eh128 rfl
        have f130 : fr S_Mod_readRodX h h128 := fr_put f119 eh128 rfl
        refine V_aload_n 0 d_Mod_readRod_53 rfl rfl ?_
        refine V_getR fa_Mod_17 sk_116 rfl d_Mod_readRod_54 ?_
        refine V_bipush 85 d_Mod_readRod_57 (by decide) ?_
        refine V_aload_n 0 d_Mod_readRod_59 rfl rfl ?_
        refine V_iconst 1 d_Mod_readRod_60 (by decide) ?_
        refine V_bipush 9 d_Mod_readRod_61 (by decide) ?_
        refine N_callVI [.int 1, .int 9] [.int 85, .ref 119] cv_Mod_158 sk_116 rfl d_Mod_readRod_63 rfl (Nat.le_of_ble_eq_true rfl) (by decide) (by decide) (c_Mod_readNumberX h128 b (x_en b p0) hI129 1 1 tc_1 9 9 tc_9 s sZ sE (kn_ne eh128 (kn_call fh116 (kn_call fh109 sK rfl) rfl) (by decide)) o120 o120Z o120E (kn_ne eh128 o120K (by decide)) o121 o121Z o121E (kn_ne eh128 o121K (by decide)) o122 o122Z o122E (kn_ne eh128 o122K (by decide)) o123 o123Z o123E (kn_ne eh128 o123K (by decide)) o124 o124Z o124E (kn_ne eh128 o124K (by decide)) o125 o125Z o125E (kn_ne eh128 o125K (by decide)) (TP_fr f130 (fun _ => rfl) hy0) (by (first | decide +kernel | omega)) (Or.inl (by (first | decide +kernel | omega)))) (fun z131 h132 z131Z z131E p133 => ?_)
        obtain ⟨hI134, fh132, o136, o136Z, o136E, o136K, o137, o137Z, o137E, o137K, o138, o138Z, o138E, o138K, o139, o139Z, o139E, o139K, o140, o140Z, o140E, o140K, o141, o141Z, o141E, o141K, p133⟩ := p133
        have f135 : fr S_Mod_readRodX h h132 := fr_call f130 fh132 rfl
        have g142 : 0 ≤ o136Z ∧ o136Z ≤ 160 := inv_at hI134 o136E o136K.symm rfl
        have g143 : 0 ≤ o137Z ∧ o137Z ≤ 160 := inv_at hI134 o137E o137K.symm rfl
        replace p133 := And.intro (p133.1.resolve_right (fun q => by (first | decide +kernel | omega))) p133.2
        refine N_iast sk_119 tc_85 (by (first | decide +kernel | omega)) d_Mod_readRod_66 (fun h144 eh144 => ?_)
        have hI145 : Inv h144 := inv_full hI134 eh144 rfl
        have f146 : fr S_Mod_readRodX h h144 := fr_put f135 eh144 rfl
        exact V_vret rfl d_Mod_readRod_67 ⟨rfl, ⟨hI145, f146, o136, o136Z, o136E, (kn_ne eh144 o136K (by decide)), o137, o137Z, o137E, (kn_ne eh144 o137K (by decide)), o138, o138Z, o138E, (kn_ne eh144 o138K (by decide)), o139, o139Z, o139E, (kn_ne eh144 o139K (by decide)), o140, o140Z, o140E, (kn_ne eh144 o140K (by decide)), o141, o141Z, o141E, (kn_ne eh144 o141K (by decide)), ⟨Or.inl ⟨by (first | decide +kernel | omega), (show x_l8 b T p0 = (x_cK b p0, x_fr b p0) from by unfold x_l8; rw [x_sq_y (c := x_cK b p0) (by (first | decide +kernel | omega))]).trans (pq (by (first | decide +kernel | omega)) (by (first | decide +kernel | omega)))⟩, by (first | decide +kernel | omega), by (first | decide +kernel | omega), by (first | decide +kernel | omega)⟩⟩⟩
      ·
        refine V_iconst 1 d_Mod_readRod_32 (by decide) ?_
        refine V_goto 37 d_Mod_readRod_33 (by decide) ?_
        refine V_iconst 2 d_Mod_readRod_37 (by decide) ?_
        refine N_callVV [.int 1, .int 2] [] cv_Mod_144 sk_116 rfl d_Mod_readRod_38 rfl (Nat.le_of_ble_eq_true rfl) (by decide) (by decide) (c_Mod_needsX h hI 1 1 tc_1 2 2 tc_2 g gZ gE gK w wZ wE wK a aZ aE aK) (fun h148 p149 => ?_)
        obtain ⟨hI150, fh148, o152, o152Z, o152E, o152K, o153, o153Z, o153E, o153K, p149⟩ := p149
        have f151 : fr S_Mod_readRodX h h148 := fr_call f0 fh148 rfl
        have R154 : RM h148 T D := RM_fr fh148 rfl hy3
        refine V_aload_n 0 d_Mod_readRod_41 rfl rfl ?_
        refine N_callVV [] [] cv_Mod_152 sk_116 rfl d_Mod_readRod_42 rfl (Nat.le_of_ble_eq_true rfl) (by decide) (by decide) (c_Mod_nextX h148 b hI150 s sZ sE (kn_call fh148 sK rfl) p pZ pE (kn_call fh148 pK rfl) g gZ gE (kn_call fh148 gK rfl) k kZ kE (kn_call fh148 kK rfl) v vZ vE (kn_call fh148 vK rfl) o152 o152Z o152E o152K o153 o153Z o153E o153K (TP_fr f151 (fun _ => rfl) hy0) (by (first | decide +kernel | omega))) (fun h156 p157 => ?_)
        obtain ⟨hI158, fh156, o160, o160Z, o160E, o160K, o161, o161Z, o161E, o161K, o162, o162Z, o162E, o162K, o163, o163Z, o163E, o163K, o164, o164Z, o164E, o164K, o165, o165Z, o165E, o165K, p157⟩ := p157
        have f159 : fr S_Mod_readRodX h h156 := fr_call f151 fh156 rfl
        have R166 : RM h156 T D := RM_fr fh156 rfl R154
        have g167 : 0 ≤ o160Z ∧ o160Z ≤ 160 := inv_at hI158 o160E o160K.symm rfl
        have g168 : 0 ≤ o161Z ∧ o161Z ≤ 160 := inv_at hI158 o161E o161K.symm rfl
        rcases (dj2 _ : o164Z ≠ 0 ∨ o164Z = 0) with c169 | c169
        ·
          have g170 := x_cN_4 (b := b) (p := (x_en b p0)) 1 9 (by (first | decide +kernel | omega))
          refine V_aload_n 0 d_Mod_readRod_45 rfl rfl ?_
          refine V_getR fa_Mod_17 sk_116 rfl d_Mod_readRod_46 ?_
          refine V_bipush 84 d_Mod_readRod_49 (by decide) ?_
          refine V_iload_n 1 d_Mod_readRod_51 rfl rfl ?_
          refine N_iast sk_119 tc_84 (by (first | decide +kernel | omega)) d_Mod_readRod_52 (fun h171 eh171 => ?_)
          have hI172 : Inv h171 := inv_full hI158 eh171 rfl
          have f173 : fr S_Mod_readRodX h h171 := fr_put f159 eh171 rfl
          refine V_aload_n 0 d_Mod_readRod_53 rfl rfl ?_
          refine V_getR fa_Mod_17 sk_116 rfl d_Mod_readRod_54 ?_
          refine V_bipush 85 d_Mod_readRod_57 (by decide) ?_
          refine V_aload_n 0 d_Mod_readRod_59 rfl rfl ?_
          refine V_iconst 1 d_Mod_readRod_60 (by decide) ?_
          refine V_bipush 9 d_Mod_readRod_61 (by decide) ?_
          refine N_callVI [.int 1, .int 9] [.int 85, .ref 119] cv_Mod_158 sk_116 rfl d_Mod_readRod_63 rfl (Nat.le_of_ble_eq_true rfl) (by decide) (by decide) (c_Mod_readNumberX h171 b (x_en b p0) hI172 1 1 tc_1 9 9 tc_9 s sZ sE (kn_ne eh171 (kn_call fh156 (kn_call fh148 sK rfl) rfl) (by decide)) o160 o160Z o160E (kn_ne eh171 o160K (by decide)) o161 o161Z o161E (kn_ne eh171 o161K (by decide)) o162 o162Z o162E (kn_ne eh171 o162K (by decide)) o163 o163Z o163E (kn_ne eh171 o163K (by decide)) o164 o164Z o164E (kn_ne eh171 o164K (by decide)) o165 o165Z o165E (kn_ne eh171 o165K (by decide)) (TP_fr f173 (fun _ => rfl) hy0) (by (first | decide +kernel | omega)) (Or.inl (by (first | decide +kernel | omega)))) (fun z174 h175 z174Z z174E p176 => ?_)
          obtain ⟨hI177, fh175, o179, o179Z, o179E, o179K, o180, o180Z, o180E, o180K, o181, o181Z, o181E, o181K, o182, o182Z, o182E, o182K, o183, o183Z, o183E, o183K, o184, o184Z, o184E, o184K, p176⟩ := p176
          have f178 : fr S_Mod_readRodX h h175 := fr_call f173 fh175 rfl
          have g185 : 0 ≤ o179Z ∧ o179Z ≤ 160 := inv_at hI177 o179E o179K.symm rfl
          have g186 : 0 ≤ o180Z ∧ o180Z ≤ 160 := inv_at hI177 o180E o180K.symm rfl
          replace p176 := And.intro (p176.1.resolve_right (fun q => by (first | decide +kernel | omega))) p176.2
          refine N_iast sk_119 tc_85 (by (first | decide +kernel | omega)) d_Mod_readRod_66 (fun h187 eh187 => ?_)
          have hI188 : Inv h187 := inv_full hI177 eh187 rfl
          have f189 : fr S_Mod_readRodX h h187 := fr_put f178 eh187 rfl
          exact V_vret rfl d_Mod_readRod_67 ⟨rfl, ⟨hI188, f189, o179, o179Z, o179E, (kn_ne eh187 o179K (by decide)), o180, o180Z, o180E, (kn_ne eh187 o180K (by decide)), o181, o181Z, o181E, (kn_ne eh187 o181K (by decide)), o182, o182Z, o182E, (kn_ne eh187 o182K (by decide)), o183, o183Z, o183E, (kn_ne eh187 o183K (by decide)), o184, o184Z, o184E, (kn_ne eh187 o184K (by decide)), ⟨Or.inl ⟨by (first | decide +kernel | omega), (show x_l8 b T p0 = (x_cN b (x_en b p0) 1 9, x_fr b (x_en b p0)) from by unfold x_l8; rw [x_sq_n (c := x_cK b p0) (by (first | decide +kernel | omega)), x_sq_y (c := x_cN b (x_en b p0) 1 9) (by (first | decide +kernel | omega))]).trans (pq (by (first | decide +kernel | omega)) (by (first | decide +kernel | omega)))⟩, by (first | decide +kernel | omega), by (first | decide +kernel | omega), by (first | decide +kernel | omega)⟩⟩⟩
        ·
          refine V_aload_n 0 d_Mod_readRod_45 rfl rfl ?_
          refine V_getR fa_Mod_17 sk_116 rfl d_Mod_readRod_46 ?_
          refine V_bipush 84 d_Mod_readRod_49 (by decide) ?_
          refine V_iload_n 1 d_Mod_readRod_51 rfl rfl ?_
          refine N_iast sk_119 tc_84 (by (first | decide +kernel | omega)) d_Mod_readRod_52 (fun h190 eh190 => ?_)
          have hI191 : Inv h190 := inv_full hI158 eh190 rfl
          have f192 : fr S_Mod_readRodX h h190 := fr_put f159 eh190 rfl
          have R193 : RM h190 T (x_up D 84 (x_nn b p0)) := RM_put R166 eh190 (Or.inl ⟨rfl, by (first | decide +kernel | omega), rfl⟩) (z98E.trans (by (first | decide +kernel | omega))) (by (first | decide +kernel | omega))
          refine V_aload_n 0 d_Mod_readRod_53 rfl rfl ?_
          refine V_getR fa_Mod_17 sk_116 rfl d_Mod_readRod_54 ?_
          refine V_bipush 85 d_Mod_readRod_57 (by decide) ?_
          refine V_aload_n 0 d_Mod_readRod_59 rfl rfl ?_
          refine V_iconst 1 d_Mod_readRod_60 (by decide) ?_
          refine V_bipush 9 d_Mod_readRod_61 (by decide) ?_
          refine N_callVI [.int 1, .int 9] [.int 85, .ref 119] cv_Mod_158 sk_116 rfl d_Mod_readRod_63 rfl (Nat.le_of_ble_eq_true rfl) (by decide) (by decide) (c_Mod_readNumberX h190 b (x_en b p0) hI191 1 1 tc_1 9 9 tc_9 s sZ sE (kn_ne eh190 (kn_call fh156 (kn_call fh148 sK rfl) rfl) (by decide)) o160 o160Z o160E (kn_ne eh190 o160K (by decide)) o161 o161Z o161E (kn_ne eh190 o161K (by decide)) o162 o162Z o162E (kn_ne eh190 o162K (by decide)) o163 o163Z o163E (kn_ne eh190 o163K (by decide)) o164 o164Z o164E (kn_ne eh190 o164K (by decide)) o165 o165Z o165E (kn_ne eh190 o165K (by decide)) (TP_fr f192 (fun _ => rfl) hy0) (by (first | decide +kernel | omega)) (Or.inr ⟨by (first | decide +kernel | omega), by (first | decide +kernel | omega), by (first | decide +kernel | omega), by (first | decide +kernel | omega), by (first | decide +kernel | omega), by (first | decide +kernel | omega), by (first | decide +kernel | omega), by (first | decide +kernel | omega), by (first | decide +kernel | omega), by (first | decide +kernel | omega), by (first | decide +kernel | omega)⟩)) (fun z194 h195 z194Z z194E p196 => ?_)
          obtain ⟨hI197, fh195, o199, o199Z, o199E, o199K, o200, o200Z, o200E, o200K, o201, o201Z, o201E, o201K, o202, o202Z, o202E, o202K, o203, o203Z, o203E, o203K, o204, o204Z, o204E, o204K, p196⟩ := p196
          have f198 : fr S_Mod_readRodX h h195 := fr_call f192 fh195 rfl
          have R205 : RM h195 T (x_up D 84 (x_nn b p0)) := RM_fr fh195 rfl R193
          have g206 : 0 ≤ o199Z ∧ o199Z ≤ 160 := inv_at hI197 o199E o199K.symm rfl
          have g207 : 0 ≤ o200Z ∧ o200Z ≤ 160 := inv_at hI197 o200E o200K.symm rfl
          rcases (dj3 _ _ : o203Z ≠ 0 ∧ x_cN b (x_en b p0) 1 9 ≠ 0 ∨ o203Z ≠ 0 ∧ x_cN b (x_en b p0) 1 9 = 0 ∨ o203Z = 0) with c208 | c208 | c208
          ·
            replace p196 := And.intro ((p196.1.resolve_left (fun q => by (first | decide +kernel | omega))).resolve_right (fun q => by (first | decide +kernel | omega))) p196.2
            refine N_iast sk_119 tc_85 (by (first | decide +kernel | omega)) d_Mod_readRod_66 (fun h209 eh209 => ?_)
            have hI210 : Inv h209 := inv_full hI197 eh209 rfl
            have f211 : fr S_Mod_readRodX h h209 := fr_put f198 eh209 rfl
            exact V_vret rfl d_Mod_readRod_67 ⟨rfl, ⟨hI210, f211, o199, o199Z, o199E, (kn_ne eh209 o199K (by decide)), o200, o200Z, o200E, (kn_ne eh209 o200K (by decide)), o201, o201Z, o201E, (kn_ne eh209 o201K (by decide)), o202, o202Z, o202E, (kn_ne eh209 o202K (by decide)), o203, o203Z, o203E, (kn_ne eh209 o203K (by decide)), o204, o204Z, o204E, (kn_ne eh209 o204K (by decide)), ⟨Or.inl ⟨by (first | decide +kernel | omega), (show x_l8 b T p0 = (x_cN b (x_en b p0) 1 9, x_fr b (x_en b p0)) from by unfold x_l8; rw [x_sq_n (c := x_cK b p0) (by (first | decide +kernel | omega)), x_sq_y (c := x_cN b (x_en b p0) 1 9) (by (first | decide +kernel | omega))]).trans (pq (by (first | decide +kernel | omega)) (by (first | decide +kernel | omega)))⟩, by (first | decide +kernel | omega), by (first | decide +kernel | omega), by (first | decide +kernel | omega)⟩⟩⟩
          ·
            replace p196 := And.intro ((p196.1.resolve_left (fun q => by (first | decide +kernel | omega))).resolve_left (fun q => by (first | decide +kernel | omega))).2.1 (And.intro ((p196.1.resolve_left (fun q => by (first | decide +kernel | omega))).resolve_left (fun q => by (first | decide +kernel | omega))).2.2.1 (And.intro (((p196.1.resolve_left (fun q => by (first | decide +kernel | omega))).resolve_left (fun q => by (first | decide +kernel | omega))).2.2.2.resolve_right (fun q => by (first | decide +kernel | omega))) p196.2))
            have g212 := x_cN_0 p196.1
            have g213 := x_cS_4 (b := b) (p := (x_en b (x_en b p0))) (by (first | decide +kernel | omega))
            refine N_iast sk_119 tc_85 (by (first | decide +kernel | omega)) d_Mod_readRod_66 (fun h214 eh214 => ?_)
            have hI215 : Inv h214 := inv_full hI197 eh214 rfl
            have f216 : fr S_Mod_readRodX h h214 := fr_put f198 eh214 rfl
            exact V_vret rfl d_Mod_readRod_67 ⟨rfl, ⟨hI215, f216, o199, o199Z, o199E, (kn_ne eh214 o199K (by decide)), o200, o200Z, o200E, (kn_ne eh214 o200K (by decide)), o201, o201Z, o201E, (kn_ne eh214 o201K (by decide)), o202, o202Z, o202E, (kn_ne eh214 o202K (by decide)), o203, o203Z, o203E, (kn_ne eh214 o203K (by decide)), o204, o204Z, o204E, (kn_ne eh214 o204K (by decide)), ⟨Or.inl ⟨by (first | decide +kernel | omega), (show x_l8 b T p0 = (x_cS b (x_en b (x_en b p0)), x_fr b (x_en b (x_en b p0))) from by unfold x_l8; rw [x_sq_n (c := x_cK b p0) (by (first | decide +kernel | omega)), x_sq_n (c := x_cN b (x_en b p0) 1 9) (by (first | decide +kernel | omega)), x_sq_y (c := x_cS b (x_en b (x_en b p0))) (by (first | decide +kernel | omega))]).trans (pq (by (first | decide +kernel | omega)) (by (first | decide +kernel | omega)))⟩, by (first | decide +kernel | omega), by (first | decide +kernel | omega), by (first | decide +kernel | omega)⟩⟩⟩
          ·
            replace p196 := And.intro ((p196.1.resolve_left (fun q => by (first | decide +kernel | omega))).resolve_left (fun q => by (first | decide +kernel | omega))).2.1 (And.intro ((p196.1.resolve_left (fun q => by (first | decide +kernel | omega))).resolve_left (fun q => by (first | decide +kernel | omega))).2.2.1 (And.intro (((p196.1.resolve_left (fun q => by (first | decide +kernel | omega))).resolve_left (fun q => by (first | decide +kernel | omega))).2.2.2.resolve_left (fun q => by (first | decide +kernel | omega))) p196.2))
            have g217 := x_cN_0 p196.1
            refine N_iast sk_119 tc_85 (by (first | decide +kernel | omega)) d_Mod_readRod_66 (fun h218 eh218 => ?_)
            have hI219 : Inv h218 := inv_full hI197 eh218 rfl
            have f220 : fr S_Mod_readRodX h h218 := fr_put f198 eh218 rfl
            have R221 : RM h218 T (x_up (x_up D 84 (x_nn b p0)) 85 (x_vl b (x_en b p0))) := RM_put R205 eh218 (Or.inl ⟨rfl, by (first | decide +kernel | omega), rfl⟩) (z194E.trans (by (first | decide +kernel | omega))) (by (first | decide +kernel | omega))
            exact V_vret rfl d_Mod_readRod_67 ⟨rfl, ⟨hI219, f220, o199, o199Z, o199E, (kn_ne eh218 o199K (by decide)), o200, o200Z, o200E, (kn_ne eh218 o200K (by decide)), o201, o201Z, o201E, (kn_ne eh218 o201K (by decide)), o202, o202Z, o202E, (kn_ne eh218 o202K (by decide)), o203, o203Z, o203E, (kn_ne eh218 o203K (by decide)), o204, o204Z, o204E, (kn_ne eh218 o204K (by decide)), ⟨Or.inr ⟨by (first | decide +kernel | omega), by unfold x_l8; rw [x_sq_n (c := x_cK b p0) (by (first | decide +kernel | omega)), x_sq_n (c := x_cN b (x_en b p0) 1 9) (by (first | decide +kernel | omega))], p196.2.2.1.2, R221⟩, by (first | decide +kernel | omega), by (first | decide +kernel | omega), by (first | decide +kernel | omega)⟩⟩⟩
def S_Mod_readDebtX : List (Nat × Option Nat) := [(116, some 16), (116, some 17), (116, some 18), (116, some 19), (116, some 20), (116, some 21), (119, none)]
abbrev q_Mod_readDebtX (h : Hp) (b : Int → Int) (T : Nat → Int → Int) (D : Nat → Int) (p0 : Int) (s : Int32) (sZ : Int) (p : Int32) (pZ : Int) (g : Int32) (gZ : Int) (k : Int32) (kZ : Int) (v : Int32) (vZ : Int) (w : Int32) (wZ : Int) (a : Int32) (aZ : Int) (m : Int32) (mZ : Int) : Option Value → Hp → Prop := pVd (fun h' => Inv h' ∧ fr S_Mod_readDebtX h h' ∧ ∃ (q : Int32) (qZ : Int), q.toInt = qZ ∧ h'.1 116 16 = q ∧ ∃ (f : Int32) (fZ : Int), f.toInt = fZ ∧ h'.1 116 17 = f ∧ ∃ (m : Int32) (mZ : Int), m.toInt = mZ ∧ h'.1 116 18 = m ∧ ∃ (x : Int32) (xZ : Int), x.toInt = xZ ∧ h'.1 116 19 = x ∧ ∃ (u : Int32) (uZ : Int), u.toInt = uZ ∧ h'.1 116 20 = u ∧ ∃ (y : Int32) (yZ : Int), y.toInt = yZ ∧ h'.1 116 21 = y ∧ ((uZ ≠ 0 ∧ x_l9 b T p0 = (uZ, yZ) ∨ uZ = 0 ∧ x_l9 b T p0 = x_sq (x_cS b (x_en b (x_en b (x_en b p0)))) (x_fr b (x_en b (x_en b (x_en b p0)))) (0, x_en b (x_en b (x_en b (x_en b p0)))) ∧ (fZ = x_fr b (x_en b (x_en b (x_en b p0))) ∧ mZ = x_kd b (x_en b (x_en b (x_en b p0))) ∧ mZ ≠ 4 ∧ 0 ≤ mZ ∧ mZ ≤ 3 ∧ qZ = x_en b (x_en b (x_en b (x_en b p0))) ∧ (mZ ≠ 2 ∨ xZ = x_vl b (x_en b (x_en b (x_en b p0))) ∧ 0 ≤ xZ ∧ xZ ≤ 99) ∧ (x_en b (x_en b (x_en b p0))) ≤ fZ ∧ fZ ≤ qZ ∧ qZ ≤ sZ ∧ (mZ = 0 ∨ fZ < qZ)) ∧ RM h' T (x_up (x_up (x_up (x_up D (87 + 3 * D 86) (x_vl b p0)) (88 + 3 * D 86) (x_vl b (x_en b p0))) (89 + 3 * D 86) (x_vl b (x_en b (x_en b p0)))) 86 (D 86 + 1))) ∧ 0 ≤ qZ ∧ qZ ≤ sZ ∧ 0 ≤ uZ))
set_option maxRecDepth 100000 in
theorem c_Mod_readDebtX (h : Hp) (b : Int → Int) (T : Nat → Int → Int) (D : Nat → Int) (p0 : Int) (hI : Inv h) (s : Int32) (sZ : Int) (sE : s.toInt = sZ) (sK : h.1 116 15 = s) (p : Int32) (pZ : Int) (pE : p.toInt = pZ) (pK : h.1 116 16 = p) (g : Int32) (gZ : Int) (gE : g.toInt = gZ) (gK : h.1 116 17 = g) (k : Int32) (kZ : Int) (kE : k.toInt = kZ) (kK : h.1 116 18 = k) (v : Int32) (vZ : Int) (vE : v.toInt = vZ) (vK : h.1 116 19 = v) (w : Int32) (wZ : Int) (wE : w.toInt = wZ) (wK : h.1 116 20 = w) (a : Int32) (aZ : Int) (aE : a.toInt = aZ) (aK : h.1 116 21 = a) (m : Int32) (mZ : Int) (mE : m.toInt = mZ) (mK : h.1 119 86 = m) (hy0 : TP h 121 sZ b) (hy1 : 0 ≤ pZ ∧ pZ ≤ sZ ∧ wZ = 0) (hy2 : gZ = x_fr b p0 ∧ kZ = x_kd b p0 ∧ kZ ≠ 4 ∧ 0 ≤ kZ ∧ kZ ≤ 3 ∧ pZ = x_en b p0 ∧ (kZ ≠ 2 ∨ vZ = x_vl b p0 ∧ 0 ≤ vZ ∧ vZ ≤ 99) ∧ p0 ≤ gZ ∧ gZ ≤ pZ ∧ pZ ≤ sZ ∧ (kZ = 0 ∨ gZ < pZ)) (hy3 : RM h T D) (hy4 : mZ < 8) : Ct y_Mod_readDebt b_Mod_readDebt 3 none 3 70 [.ref 116] h (q_Mod_readDebtX h b T D p0 s sZ p pZ g gZ k kZ v vZ w wZ a aZ m mZ) := by
  refine ct_ow R_Mod [some (.ref 116), none, none] rfl (by decide) rfl (Nat.le_of_ble_eq_true rfl) ?_
  have f0 : fr S_Mod_readDebtX h h := fr_rf
  have g1 : 0 ≤ sZ ∧ sZ ≤ 160 := inv_at hI sE sK.symm rfl
  have g2 : 0 ≤ pZ ∧ pZ ≤ 160 := inv_at hI pE pK.symm rfl
  have g3 : 0 ≤ gZ ∧ gZ ≤ 160 := inv_at hI gE gK.symm rfl
  have g9 : 0 ≤ mZ ∧ mZ ≤ 8 := inv_at hI mE mK.symm rfl
  have g8 := RM_many hy3 mK mE
  refine V_bipush 87 d_Mod_readDebt_0 (by decide) ?_
  refine V_iconst 3 d_Mod_readDebt_2 (by decide) ?_
  refine V_aload_n 0 d_Mod_readDebt_3 rfl rfl ?_
  refine V_getR fa_Mod_17 sk_116 rfl d_Mod_readDebt_4 ?_
  refine V_bipush 86 d_Mod_readDebt_7 (by decide) ?_
  refine N_ialdK sk_119 tc_86 (by (first | decide +kernel | omega)) d_Mod_readDebt_9 mK ?_
  refine V_imul tc_3 mE (by (first | decide +kernel | omega)) d_Mod_readDebt_10 (fun z5 z5e z5E => ?_)
  refine V_iadd tc_87 z5E (by (first | decide +kernel | omega)) d_Mod_readDebt_11 (fun z6 z6e z6E => ?_)
  refine V_istore_n 1 [some (.ref 116), some (.int z6), none] d_Mod_readDebt_12 rfl (by decide) rfl rfl ?_
  refine V_aload_n 0 d_Mod_readDebt_13 rfl rfl ?_
  refine V_getR fa_Mod_17 sk_116 rfl d_Mod_readDebt_14 ?_
  refine V_iload_n 1 d_Mod_readDebt_17 rfl rfl ?_
  refine V_aload_n 0 d_Mod_readDebt_18 rfl rfl ?_
  refine V_iconst 0 d_Mod_readDebt_19 (by decide) ?_
  refine V_iconst 3 d_Mod_readDebt_20 (by decide) ?_
  refine N_callVI [.int 0, .int 3] [.int z6, .ref 119] cv_Mod_158 sk_116 rfl d_Mod_readDebt_21 rfl (Nat.le_of_ble_eq_true rfl) (by decide) (by decide) (c_Mod_readNumberX h b p0 hI 0 0 tc_0 3 3 tc_3 s sZ sE sK p pZ pE pK g gZ gE gK k kZ kE kK v vZ vE vK w wZ wE wK a aZ aE aK (TP_fr f0 (fun _ => rfl) hy0) (by (first | decide +kernel | omega)) (Or.inr ⟨by (first | decide +kernel | omega), by (first | decide +kernel | omega), by (first | decide +kernel | omega), by (first | decide +kernel | omega), by (first | decide +kernel | omega), by (first | decide +kernel | omega), by (first | decide +kernel | omega), by (first | decide +kernel | omega), by (first | decide +kernel | omega), by (first | decide +kernel | omega), by (first | decide +kernel | omega)⟩)) (fun z7 h8 z7Z z7E p9 => ?_)
  obtain ⟨hI10, fh8, o12, o12Z, o12E, o12K, o13, o13Z, o13E, o13K, o14, o14Z, o14E, o14K, o15, o15Z, o15E, o15K, o16, o16Z, o16E, o16K, o17, o17Z, o17E, o17K, p9⟩ := p9
  have f11 : fr S_Mod_readDebtX h h8 := fr_call f0 fh8 rfl
  have R18 : RM h8 T D := RM_fr fh8 rfl hy3
  have g19 : 0 ≤ o12Z ∧ o12Z ≤ 160 := inv_at hI10 o12E o12K.symm rfl
  have g20 : 0 ≤ o13Z ∧ o13Z ≤ 160 := inv_at hI10 o13E o13K.symm rfl
  rcases (dj3 _ _ : o16Z ≠ 0 ∧ x_cN b p0 0 3 ≠ 0 ∨ o16Z ≠ 0 ∧ x_cN b p0 0 3 = 0 ∨ o16Z = 0) with c21 | c21 | c21
  ·
    replace p9 := And.intro ((p9.1.resolve_left (fun q => by (first | decide +kernel | omega))).resolve_right (fun q => by (first | decide +kernel | omega))) p9.2
    refine N_iast sk_119 z6E (by (first | decide +kernel | omega)) d_Mod_readDebt_24 (fun h22 eh22 => ?_)
    have hI23 : Inv h22 := inv_put hI10 eh22 (st_a (by (first | decide +kernel | omega))) z7E (by (first | decide +kernel | omega))
    have f24 : fr S_Mod_readDebtX h h22 := fr_put f11 eh22 rfl
    refine V_aload_n 0 d_Mod_readDebt_25 rfl rfl ?_
    refine V_iconst 0 d_Mod_readDebt_26 (by decide) ?_
    refine V_iconst 3 d_Mod_readDebt_27 (by decide) ?_
    refine N_callVI [.int 0, .int 3] [] cv_Mod_148 sk_116 rfl d_Mod_readDebt_28 rfl (Nat.le_of_ble_eq_true rfl) (by decide) (by decide) (c_Mod_lookedX h22 hI23 0 0 tc_0 3 3 tc_3 o13 o13Z o13E (kn_ne eh22 o13K (by decide)) o14 o14Z o14E (kn_ne eh22 o14K (by decide)) o15 o15Z o15E (kn_ne eh22 o15K (by decide)) o16 o16Z o16E (kn_ne eh22 o16K (by decide)) o17 o17Z o17E (kn_ne eh22 o17K (by decide))) (fun z25 h26 z25Z z25E p27 => ?_)
    obtain ⟨hI28, fh26, o30, o30Z, o30E, o30K, o31, o31Z, o31E, o31K, p27⟩ := p27
    have f29 : fr S_Mod_readDebtX h h26 := fr_call f24 fh26 rfl
    replace p27 := p27.resolve_right (fun q => by (first | decide +kernel | omega))
    refine V_istore_n 2 [some (.ref 116), some (.int z6), some (.int z25)] d_Mod_readDebt_31 rfl (by decide) rfl rfl ?_
    refine V_aload_n 0 d_Mod_readDebt_32 rfl rfl ?_
    refine N_getK fa_Mod_102 sk_116 rfl d_Mod_readDebt_33 o30K ?_
    refine V_if_ne 59 o30E d_Mod_readDebt_36 (by decide) (fun c32 => ?_) (fun c32 => ?_)
    ·
      refine V_aload_n 0 d_Mod_readDebt_59 rfl rfl ?_
      refine N_callVV [] [] cv_Mod_152 sk_116 rfl d_Mod_readDebt_60 rfl (Nat.le_of_ble_eq_true rfl) (by decide) (by decide) (c_Mod_nextX h26 b hI28 s sZ sE (kn_call fh26 (kn_ne eh22 (kn_call fh8 sK rfl) (by decide)) rfl) o12 o12Z o12E (kn_call fh26 (kn_ne eh22 o12K (by decide)) rfl) o13 o13Z o13E (kn_call fh26 (kn_ne eh22 o13K (by decide)) rfl) o14 o14Z o14E (kn_call fh26 (kn_ne eh22 o14K (by decide)) rfl) o15 o15Z o15E (kn_call fh26 (kn_ne eh22 o15K (by decide)) rfl) o30 o30Z o30E o30K o31 o31Z o31E o31K (TP_fr f29 (fun _ => rfl) hy0) (by (first | decide +kernel | omega))) (fun h34 p35 => ?_)
      obtain ⟨hI36, fh34, o38, o38Z, o38E, o38K, o39, o39Z, o39E, o39K, o40, o40Z, o40E, o40K, o41, o41Z, o41E, o41K, o42, o42Z, o42E, o42K, o43, o43Z, o43E, o43K, p35⟩ := p35
      have f37 : fr S_Mod_readDebtX h h34 := fr_call f29 fh34 rfl
      have g44 : 0 ≤ o38Z ∧ o38Z ≤ 160 := inv_at hI36 o38E o38K.symm rfl
      have g45 : 0 ≤ o39Z ∧ o39Z ≤ 160 := inv_at hI36 o39E o39K.symm rfl
      replace p35 := p35.resolve_right (fun q => absurd q.1 (by (first | decide +kernel | omega)))
      refine V_aload_n 0 d_Mod_readDebt_63 rfl rfl ?_
      refine V_getR fa_Mod_17 sk_116 rfl d_Mod_readDebt_64 ?_
      refine V_iload_n 1 d_Mod_readDebt_67 rfl rfl ?_
      refine V_iconst 1 d_Mod_readDebt_68 (by decide) ?_
      refine V_iadd z6E tc_1 (by (first | decide +kernel | omega)) d_Mod_readDebt_69 (fun z46 z46e z46E => ?_)
      refine V_iload_n 2 d_Mod_readDebt_70 rfl rfl ?_
      refine N_iast sk_119 z46E (by (first | decide +kernel | omega)) d_Mod_readDebt_71 (fun h47 eh47 => ?_)
      have hI48 : Inv h47 := inv_put hI36 eh47 (st_a (by (first | decide +kernel | omega))) z25E (by (first | decide +kernel | omega))
      have f49 : fr S_Mod_readDebtX h h47 := fr_put f37 eh47 rfl
      refine V_aload_n 0 d_Mod_readDebt_72 rfl rfl ?_
      refine V_getR fa_Mod_17 sk_116 rfl d_Mod_readDebt_73 ?_
      refine V_iload_n 1 d_Mod_readDebt_76 rfl rfl ?_
      refine V_iconst 2 d_Mod_readDebt_77 (by decide) ?_
      refine V_iadd z6E tc_2 (by (first | decide +kernel | omega)) d_Mod_readDebt_78 (fun z50 z50e z50E => ?_)
      refine V_aload_n 0 d_Mod_readDebt_79 rfl rfl ?_
      refine V_iconst 1 d_Mod_readDebt_80 (by decide) ?_
      refine V_bipush 99 d_Mod_readDebt_81 (by decide) ?_
      refine N_callVI [.int 1, .int 99] [.int z50, .ref 119] cv_Mod_158 sk_116 rfl d_Mod_readDebt_83 rfl (Nat.le_of_ble_eq_true rfl) (by decide) (by decide) (c_Mod_readNumberX h47 b (x_en b (x_en b p0)) hI48 1 1 tc_1 99 99 tc_99 s sZ sE (kn_ne eh47 (kn_call fh34 (kn_call fh26 (kn_ne eh22 (kn_call fh8 sK rfl) (by decide)) rfl) rfl) (by decide)) o38 o38Z o38E (kn_ne eh47 o38K (by decide)) o39 o39Z o39E (kn_ne eh47 o39K (by decide)) o40 o40Z o40E (kn_ne eh47 o40K (by decide)) o41 o41Z o41E (kn_ne eh47 o41K (by decide)) o42 o42Z o42E (kn_ne eh47 o42K (by decide)) o43 o43Z o43E (kn_ne eh47 o43K (by decide)) (TP_fr f49 (fun _ => rfl) hy0) (by (first | decide +kernel | omega)) (Or.inl (by (first | decide +kernel | omega)))) (fun z51 h52 z51Z z51E p53 => ?_)
      obtain ⟨hI54, fh52, o56, o56Z, o56E, o56K, o57, o57Z, o57E, o57K, o58, o58Z, o58E, o58K, o59, o59Z, o59E, o59K, o60, o60Z, o60E, o60K, o61, o61Z, o61E, o61K, p53⟩ := p53
      have f55 : fr S_Mod_readDebtX h h52 := fr_call f49 fh52 rfl
      have g62 : 0 ≤ o56Z ∧ o56Z ≤ 160 := inv_at hI54 o56E o56K.symm rfl
      have g63 : 0 ≤ o57Z ∧ o57Z ≤ 160 := inv_at hI54 o57E o57K.symm rfl
      replace p53 := And.intro (p53.1.resolve_right (fun q => by (first | decide +kernel | omega))) p53.2
      refine N_iast sk_119 z50E (by (first | decide +kernel | omega)) d_Mod_readDebt_86 (fun h64 eh64 => ?_)
      have hI65 : Inv h64 := inv_full hI54 eh64 (st_b (by (first | decide +kernel | omega)))
      have f66 : fr S_Mod_readDebtX h h64 := fr_put f55 eh64 rfl
      refine V_aload_n 0 d_Mod_readDebt_87 rfl rfl ?_
      refine V_getR fa_Mod_17 sk_116 rfl d_Mod_readDebt_88 ?_
      refine V_bipush 86 d_Mod_readDebt_91 (by decide) ?_
      refine V_dup2 d_Mod_readDebt_93 rfl rfl ?_
      refine N_ialdK sk_119 tc_86 (by (first | decide +kernel | omega)) d_Mod_readDebt_94 (kn_nei eh64 (kn_call fh52 (kn_nei eh47 (kn_call fh34 (kn_call fh26 (kn_nei eh22 (kn_call fh8 mK rfl) (by (first | decide +kernel | omega))) rfl) rfl) (by (first | decide +kernel | omega))) rfl) (by (first | decide +kernel | omega))) ?_
      refine V_iconst 1 d_Mod_readDebt_95 (by decide) ?_
      refine V_iadd mE tc_1 (by (first | decide +kernel | omega)) d_Mod_readDebt_96 (fun z68 z68e z68E => ?_)
      refine N_iast sk_119 tc_86 (by (first | decide +kernel | omega)) d_Mod_readDebt_97 (fun h69 eh69 => ?_)
      have hI70 : Inv h69 := inv_put (lo := 0) (hi := 8) hI65 eh69 rfl z68E (by (first | decide +kernel | omega))
      have f71 : fr S_Mod_readDebtX h h69 := fr_put f66 eh69 rfl
      exact V_vret rfl d_Mod_readDebt_98 ⟨rfl, ⟨hI70, f71, o56, o56Z, o56E, (kn_ne eh69 (kn_ne eh64 o56K (by decide)) (by decide)), o57, o57Z, o57E, (kn_ne eh69 (kn_ne eh64 o57K (by decide)) (by decide)), o58, o58Z, o58E, (kn_ne eh69 (kn_ne eh64 o58K (by decide)) (by decide)), o59, o59Z, o59E, (kn_ne eh69 (kn_ne eh64 o59K (by decide)) (by decide)), o60, o60Z, o60E, (kn_ne eh69 (kn_ne eh64 o60K (by decide)) (by decide)), o61, o61Z, o61E, (kn_ne eh69 (kn_ne eh64 o61K (by decide)) (by decide)), ⟨Or.inl ⟨by (first | decide +kernel | omega), (show x_l9 b T p0 = (x_cN b p0 0 3, x_fr b p0) from by unfold x_l9; rw [x_sq_y (c := x_cN b p0 0 3) (by (first | decide +kernel | omega))]).trans (pq (by (first | decide +kernel | omega)) (by (first | decide +kernel | omega)))⟩, by (first | decide +kernel | omega), by (first | decide +kernel | omega), by (first | decide +kernel | omega)⟩⟩⟩
    ·
      exact absurd c32 (by (first | decide +kernel | omega))
  ·
    replace p9 := And.intro ((p9.1.resolve_left (fun q => by (first | decide +kernel | omega))).resolve_left (fun q => by (first | decide +kernel | omega))).2.1 (And.intro ((p9.1.resolve_left (fun q => by (first | decide +kernel | omega))).resolve_left (fun q => by (first | decide +kernel | omega))).2.2.1 (And.intro (((p9.1.resolve_left (fun q => by (first | decide +kernel | omega))).resolve_left (fun q => by (first | decide +kernel | omega))).2.2.2.resolve_right (fun q => by (first | decide +kernel | omega))) p9.2))
    have g72 := x_cN_0 p9.1
    have g73 := x_cN_4 (b := b) (p := (x_en b p0)) 0 3 (by (first | decide +kernel | omega))
    refine N_iast sk_119 z6E (by (first | decide +kernel | omega)) d_Mod_readDebt_24 (fun h74 eh74 => ?_)
    have hI75 : Inv h74 := inv_put hI10 eh74 (st_a (by (first | decide +kernel | omega))) z7E (by (first | decide +kernel | omega))
    have f76 : fr S_Mod_readDebtX h h74 := fr_put f11 eh74 rfl
    refine V_aload_n 0 d_Mod_readDebt_25 rfl rfl ?_
    refine V_iconst 0 d_Mod_readDebt_26 (by decide) ?_
    refine V_iconst 3 d_Mod_readDebt_27 (by decide) ?_
    refine N_callVI [.int 0, .int 3] [] cv_Mod_148 sk_116 rfl d_Mod_readDebt_28 rfl (Nat.le_of_ble_eq_true rfl) (by decide) (by decide) (c_Mod_lookedX h74 hI75 0 0 tc_0 3 3 tc_3 o13 o13Z o13E (kn_ne eh74 o13K (by decide)) o14 o14Z o14E (kn_ne eh74 o14K (by decide)) o15 o15Z o15E (kn_ne eh74 o15K (by decide)) o16 o16Z o16E (kn_ne eh74 o16K (by decide)) o17 o17Z o17E (kn_ne eh74 o17K (by decide))) (fun z77 h78 z77Z z77E p79 => ?_)
    obtain ⟨hI80, fh78, o82, o82Z, o82E, o82K, o83, o83Z, o83E, o83K, p79⟩ := p79
    have f81 : fr S_Mod_readDebtX h h78 := fr_call f76 fh78 rfl
    replace p79 := p79.resolve_right (fun q => by (first | decide +kernel | omega))
    refine V_istore_n 2 [some (.ref 116), some (.int z6), some (.int z77)] d_Mod_readDebt_31 rfl (by decide) rfl rfl ?_
    refine V_aload_n 0 d_Mod_readDebt_32 rfl rfl ?_
    refine N_getK fa_Mod_102 sk_116 rfl d_Mod_readDebt_33 o82K ?_
    refine V_if_ne 59 o82E d_Mod_readDebt_36 (by decide) (fun c84 => ?_) (fun c84 => ?_)
    ·
      refine V_aload_n 0 d_Mod_readDebt_59 rfl rfl ?_
      refine N_callVV [] [] cv_Mod_152 sk_116 rfl d_Mod_readDebt_60 rfl (Nat.le_of_ble_eq_true rfl) (by decide) (by decide) (c_Mod_nextX h78 b hI80 s sZ sE (kn_call fh78 (kn_ne eh74 (kn_call fh8 sK rfl) (by decide)) rfl) o12 o12Z o12E (kn_call fh78 (kn_ne eh74 o12K (by decide)) rfl) o13 o13Z o13E (kn_call fh78 (kn_ne eh74 o13K (by decide)) rfl) o14 o14Z o14E (kn_call fh78 (kn_ne eh74 o14K (by decide)) rfl) o15 o15Z o15E (kn_call fh78 (kn_ne eh74 o15K (by decide)) rfl) o82 o82Z o82E o82K o83 o83Z o83E o83K (TP_fr f81 (fun _ => rfl) hy0) (by (first | decide +kernel | omega))) (fun h86 p87 => ?_)
      obtain ⟨hI88, fh86, o90, o90Z, o90E, o90K, o91, o91Z, o91E, o91K, o92, o92Z, o92E, o92K, o93, o93Z, o93E, o93K, o94, o94Z, o94E, o94K, o95, o95Z, o95E, o95K, p87⟩ := p87
      have f89 : fr S_Mod_readDebtX h h86 := fr_call f81 fh86 rfl
      have g96 : 0 ≤ o90Z ∧ o90Z ≤ 160 := inv_at hI88 o90E o90K.symm rfl
      have g97 : 0 ≤ o91Z ∧ o91Z ≤ 160 := inv_at hI88 o91E o91K.symm rfl
      replace p87 := p87.resolve_right (fun q => absurd q.1 (by (first | decide +kernel | omega)))
      refine V_aload_n 0 d_Mod_readDebt_63 rfl rfl ?_
      refine V_getR fa_Mod_17 sk_116 rfl d_Mod_readDebt_64 ?_
      refine V_iload_n 1 d_Mod_readDebt_67 rfl rfl ?_
      refine V_iconst 1 d_Mod_readDebt_68 (by decide) ?_
      refine V_iadd z6E tc_1 (by (first | decide +kernel | omega)) d_Mod_readDebt_69 (fun z98 z98e z98E => ?_)
      refine V_iload_n 2 d_Mod_readDebt_70 rfl rfl ?_
      refine N_iast sk_119 z98E (by (first | decide +kernel | omega)) d_Mod_readDebt_71 (fun h99 eh99 => ?_)
      have hI100 : Inv h99 := inv_put hI88 eh99 (st_a (by (first | decide +kernel | omega))) z77E (by (first | decide +kernel | omega))
      have f101 : fr S_Mod_readDebtX h h99 := fr_put f89 eh99 rfl
      refine V_aload_n 0 d_Mod_readDebt_72 rfl rfl ?_
      refine V_getR fa_Mod_17 sk_116 rfl d_Mod_readDebt_73 ?_
      refine V_iload_n 1 d_Mod_readDebt_76 rfl rfl ?_
      refine V_iconst 2 d_Mod_readDebt_77 (by decide) ?_
      refine V_iadd z6E tc_2 (by (first | decide +kernel | omega)) d_Mod_readDebt_78 (fun z102 z102e z102E => ?_)
      refine V_aload_n 0 d_Mod_readDebt_79 rfl rfl ?_
      refine V_iconst 1 d_Mod_readDebt_80 (by decide) ?_
      refine V_bipush 99 d_Mod_readDebt_81 (by decide) ?_
      refine N_callVI [.int 1, .int 99] [.int z102, .ref 119] cv_Mod_158 sk_116 rfl d_Mod_readDebt_83 rfl (Nat.le_of_ble_eq_true rfl) (by decide) (by decide) (c_Mod_readNumberX h99 b (x_en b (x_en b p0)) hI100 1 1 tc_1 99 99 tc_99 s sZ sE (kn_ne eh99 (kn_call fh86 (kn_call fh78 (kn_ne eh74 (kn_call fh8 sK rfl) (by decide)) rfl) rfl) (by decide)) o90 o90Z o90E (kn_ne eh99 o90K (by decide)) o91 o91Z o91E (kn_ne eh99 o91K (by decide)) o92 o92Z o92E (kn_ne eh99 o92K (by decide)) o93 o93Z o93E (kn_ne eh99 o93K (by decide)) o94 o94Z o94E (kn_ne eh99 o94K (by decide)) o95 o95Z o95E (kn_ne eh99 o95K (by decide)) (TP_fr f101 (fun _ => rfl) hy0) (by (first | decide +kernel | omega)) (Or.inl (by (first | decide +kernel | omega)))) (fun z103 h104 z103Z z103E p105 => ?_)
      obtain ⟨hI106, fh104, o108, o108Z, o108E, o108K, o109, o109Z, o109E, o109K, o110, o110Z, o110E, o110K, o111, o111Z, o111E, o111K, o112, o112Z, o112E, o112K, o113, o113Z, o113E, o113K, p105⟩ := p105
      have f107 : fr S_Mod_readDebtX h h104 := fr_call f101 fh104 rfl
      have g114 : 0 ≤ o108Z ∧ o108Z ≤ 160 := inv_at hI106 o108E o108K.symm rfl
      have g115 : 0 ≤ o109Z ∧ o109Z ≤ 160 := inv_at hI106 o109E o109K.symm rfl
      replace p105 := And.intro (p105.1.resolve_right (fun q => by (first | decide +kernel | omega))) p105.2
      refine N_iast sk_119 z102E (by (first | decide +kernel | omega)) d_Mod_readDebt_86 (fun h116 eh116 => ?_)
      have hI117 : Inv h116 := inv_full hI106 eh116 (st_b (by (first | decide +kernel | omega)))
      have f118 : fr S_Mod_readDebtX h h116 := fr_put f107 eh116 rfl
      refine V_aload_n 0 d_Mod_readDebt_87 rfl rfl ?_
      refine V_getR fa_Mod_17 sk_116 rfl d_Mod_readDebt_88 ?_
      refine V_bipush 86 d_Mod_readDebt_91 (by decide) ?_
      refine V_dup2 d_Mod_readDebt_93 rfl rfl ?_
      refine N_ialdK sk_119 tc_86 (by (first | decide +kernel | omega)) d_Mod_readDebt_94 (kn_nei eh116 (kn_call fh104 (kn_nei eh99 (kn_call fh86 (kn_call fh78 (kn_nei eh74 (kn_call fh8 mK rfl) (by (first | decide +kernel | omega))) rfl) rfl) (by (first | decide +kernel | omega))) rfl) (by (first | decide +kernel | omega))) ?_
      refine V_iconst 1 d_Mod_readDebt_95 (by decide) ?_
      refine V_iadd mE tc_1 (by (first | decide +kernel | omega)) d_Mod_readDebt_96 (fun z120 z120e z120E => ?_)
      refine N_iast sk_119 tc_86 (by (first | decide +kernel | omega)) d_Mod_readDebt_97 (fun h121 eh121 => ?_)
      have hI122 : Inv h121 := inv_put (lo := 0) (hi := 8) hI117 eh121 rfl z120E (by (first | decide +kernel | omega))
      have f123 : fr S_Mod_readDebtX h h121 := fr_put f118 eh121 rfl
      exact V_vret rfl d_Mod_readDebt_98 ⟨rfl, ⟨hI122, f123, o108, o108Z, o108E, (kn_ne eh121 (kn_ne eh116 o108K (by decide)) (by decide)), o109, o109Z, o109E, (kn_ne eh121 (kn_ne eh116 o109K (by decide)) (by decide)), o110, o110Z, o110E, (kn_ne eh121 (kn_ne eh116 o110K (by decide)) (by decide)), o111, o111Z, o111E, (kn_ne eh121 (kn_ne eh116 o111K (by decide)) (by decide)), o112, o112Z, o112E, (kn_ne eh121 (kn_ne eh116 o112K (by decide)) (by decide)), o113, o113Z, o113E, (kn_ne eh121 (kn_ne eh116 o113K (by decide)) (by decide)), ⟨Or.inl ⟨by (first | decide +kernel | omega), (show x_l9 b T p0 = (x_cN b (x_en b p0) 0 3, x_fr b (x_en b p0)) from by unfold x_l9; rw [x_sq_n (c := x_cN b p0 0 3) (by (first | decide +kernel | omega)), x_sq_y (c := x_cN b (x_en b p0) 0 3) (by (first | decide +kernel | omega))]).trans (pq (by (first | decide +kernel | omega)) (by (first | decide +kernel | omega)))⟩, by (first | decide +kernel | omega), by (first | decide +kernel | omega), by (first | decide +kernel | omega)⟩⟩⟩
    ·
      exact absurd c84 (by (first | decide +kernel | omega))
  ·
    replace p9 := And.intro ((p9.1.resolve_left (fun q => by (first | decide +kernel | omega))).resolve_left (fun q => by (first | decide +kernel | omega))).2.1 (And.intro ((p9.1.resolve_left (fun q => by (first | decide +kernel | omega))).resolve_left (fun q => by (first | decide +kernel | omega))).2.2.1 (And.intro (((p9.1.resolve_left (fun q => by (first | decide +kernel | omega))).resolve_left (fun q => by (first | decide +kernel | omega))).2.2.2.resolve_left (fun q => by (first | decide +kernel | omega))) p9.2))
    have g124 := x_cN_0 p9.1
    refine N_iast sk_119 z6E (by (first | decide +kernel | omega)) d_Mod_readDebt_24 (fun h125 eh125 => ?_)
    have hI126 : Inv h125 := inv_put hI10 eh125 (st_a (by (first | decide +kernel | omega))) z7E (by (first | decide +kernel | omega))
    have f127 : fr S_Mod_readDebtX h h125 := fr_put f11 eh125 rfl
    have R128 : RM h125 T (x_up D (87 + 3 * D 86) (x_vl b p0)) := RM_put R18 eh125 (Or.inl ⟨rfl, by (first | decide +kernel | omega), rfl⟩) (z7E.trans (by (first | decide +kernel | omega))) (by (first | decide +kernel | omega))
    refine V_aload_n 0 d_Mod_readDebt_25 rfl rfl ?_
    refine V_iconst 0 d_Mod_readDebt_26 (by decide) ?_
    refine V_iconst 3 d_Mod_readDebt_27 (by decide) ?_
    refine N_callVI [.int 0, .int 3] [] cv_Mod_148 sk_116 rfl d_Mod_readDebt_28 rfl (Nat.le_of_ble_eq_true rfl) (by decide) (by decide) (c_Mod_lookedX h125 hI126 0 0 tc_0 3 3 tc_3 o13 o13Z o13E (kn_ne eh125 o13K (by decide)) o14 o14Z o14E (kn_ne eh125 o14K (by decide)) o15 o15Z o15E (kn_ne eh125 o15K (by decide)) o16 o16Z o16E (kn_ne eh125 o16K (by decide)) o17 o17Z o17E (kn_ne eh125 o17K (by decide))) (fun z129 h130 z129Z z129E p131 => ?_)
    obtain ⟨hI132, fh130, o134, o134Z, o134E, o134K, o135, o135Z, o135E, o135K, p131⟩ := p131
    have f133 : fr S_Mod_readDebtX h h130 := fr_call f127 fh130 rfl
    have R136 : RM h130 T (x_up D (87 + 3 * D 86) (x_vl b p0)) := RM_fr fh130 rfl R128
    replace p131 := lk_num (b := b) (p := (x_en b p0)) (k := o14Z) (v := o15Z) (by (first | decide +kernel | omega)) (by (first | decide +kernel | omega)) (by (first | decide +kernel | omega)) (by (first | decide +kernel | omega)) p131
    refine V_istore_n 2 [some (.ref 116), some (.int z6), some (.int z129)] d_Mod_readDebt_31 rfl (by decide) rfl rfl ?_
    rcases (dj2 _ : x_cN b (x_en b p0) 0 3 ≠ 0 ∨ x_cN b (x_en b p0) 0 3 = 0) with c137 | c137
    ·
      replace p131 := p131.resolve_right (fun q => by (first | decide +kernel | omega))
      refine V_aload_n 0 d_Mod_readDebt_32 rfl rfl ?_
      refine N_getK fa_Mod_102 sk_116 rfl d_Mod_readDebt_33 o134K ?_
      refine V_if_ne 59 o134E d_Mod_readDebt_36 (by decide) (fun c138 => ?_) (fun c138 => ?_)
      ·
        refine V_aload_n 0 d_Mod_readDebt_59 rfl rfl ?_
        refine N_callVV [] [] cv_Mod_152 sk_116 rfl d_Mod_readDebt_60 rfl (Nat.le_of_ble_eq_true rfl) (by decide) (by decide) (c_Mod_nextX h130 b hI132 s sZ sE (kn_call fh130 (kn_ne eh125 (kn_call fh8 sK rfl) (by decide)) rfl) o12 o12Z o12E (kn_call fh130 (kn_ne eh125 o12K (by decide)) rfl) o13 o13Z o13E (kn_call fh130 (kn_ne eh125 o13K (by decide)) rfl) o14 o14Z o14E (kn_call fh130 (kn_ne eh125 o14K (by decide)) rfl) o15 o15Z o15E (kn_call fh130 (kn_ne eh125 o15K (by decide)) rfl) o134 o134Z o134E o134K o135 o135Z o135E o135K (TP_fr f133 (fun _ => rfl) hy0) (by (first | decide +kernel | omega))) (fun h140 p141 => ?_)
        obtain ⟨hI142, fh140, o144, o144Z, o144E, o144K, o145, o145Z, o145E, o145K, o146, o146Z, o146E, o146K, o147, o147Z, o147E, o147K, o148, o148Z, o148E, o148K, o149, o149Z, o149E, o149K, p141⟩ := p141
        have f143 : fr S_Mod_readDebtX h h140 := fr_call f133 fh140 rfl
        have g150 : 0 ≤ o144Z ∧ o144Z ≤ 160 := inv_at hI142 o144E o144K.symm rfl
        have g151 : 0 ≤ o145Z ∧ o145Z ≤ 160 := inv_at hI142 o145E o145K.symm rfl
        replace p141 := p141.resolve_right (fun q => absurd q.1 (by (first | decide +kernel | omega)))
        refine V_aload_n 0 d_Mod_readDebt_63 rfl rfl ?_
        refine V_getR fa_Mod_17 sk_116 rfl d_Mod_readDebt_64 ?_
        refine V_iload_n 1 d_Mod_readDebt_67 rfl rfl ?_
        refine V_iconst 1 d_Mod_readDebt_68 (by decide) ?_
        refine V_iadd z6E tc_1 (by (first | decide +kernel | omega)) d_Mod_readDebt_69 (fun z152 z152e z152E => ?_)
        refine V_iload_n 2 d_Mod_readDebt_70 rfl rfl ?_
        refine N_iast sk_119 z152E (by (first | decide +kernel | omega)) d_Mod_readDebt_71 (fun h153 eh153 => ?_)
        have hI154 : Inv h153 := inv_put hI142 eh153 (st_a (by (first | decide +kernel | omega))) z129E (by (first | decide +kernel | omega))
        have f155 : fr S_Mod_readDebtX h h153 := fr_put f143 eh153 rfl
        refine V_aload_n 0 d_Mod_readDebt_72 rfl rfl ?_
        refine V_getR fa_Mod_17 sk_116 rfl d_Mod_readDebt_73 ?_
        refine V_iload_n 1 d_Mod_readDebt_76 rfl rfl ?_
        refine V_iconst 2 d_Mod_readDebt_77 (by decide) ?_
        refine V_iadd z6E tc_2 (by (first | decide +kernel | omega)) d_Mod_readDebt_78 (fun z156 z156e z156E => ?_)
        refine V_aload_n 0 d_Mod_readDebt_79 rfl rfl ?_
        refine V_iconst 1 d_Mod_readDebt_80 (by decide) ?_
        refine V_bipush 99 d_Mod_readDebt_81 (by decide) ?_
        refine N_callVI [.int 1, .int 99] [.int z156, .ref 119] cv_Mod_158 sk_116 rfl d_Mod_readDebt_83 rfl (Nat.le_of_ble_eq_true rfl) (by decide) (by decide) (c_Mod_readNumberX h153 b (x_en b (x_en b p0)) hI154 1 1 tc_1 99 99 tc_99 s sZ sE (kn_ne eh153 (kn_call fh140 (kn_call fh130 (kn_ne eh125 (kn_call fh8 sK rfl) (by decide)) rfl) rfl) (by decide)) o144 o144Z o144E (kn_ne eh153 o144K (by decide)) o145 o145Z o145E (kn_ne eh153 o145K (by decide)) o146 o146Z o146E (kn_ne eh153 o146K (by decide)) o147 o147Z o147E (kn_ne eh153 o147K (by decide)) o148 o148Z o148E (kn_ne eh153 o148K (by decide)) o149 o149Z o149E (kn_ne eh153 o149K (by decide)) (TP_fr f155 (fun _ => rfl) hy0) (by (first | decide +kernel | omega)) (Or.inl (by (first | decide +kernel | omega)))) (fun z157 h158 z157Z z157E p159 => ?_)
        obtain ⟨hI160, fh158, o162, o162Z, o162E, o162K, o163, o163Z, o163E, o163K, o164, o164Z, o164E, o164K, o165, o165Z, o165E, o165K, o166, o166Z, o166E, o166K, o167, o167Z, o167E, o167K, p159⟩ := p159
        have f161 : fr S_Mod_readDebtX h h158 := fr_call f155 fh158 rfl
        have g168 : 0 ≤ o162Z ∧ o162Z ≤ 160 := inv_at hI160 o162E o162K.symm rfl
        have g169 : 0 ≤ o163Z ∧ o163Z ≤ 160 := inv_at hI160 o163E o163K.symm rfl
        replace p159 := And.intro (p159.1.resolve_right (fun q => by (first | decide +kernel | omega))) p159.2
        refine N_iast sk_119 z156E (by (first | decide +kernel | omega)) d_Mod_readDebt_86 (fun h170 eh170 => ?_)
        have hI171 : Inv h170 := inv_full hI160 eh170 (st_b (by (first | decide +kernel | omega)))
        have f172 : fr S_Mod_readDebtX h h170 := fr_put f161 eh170 rfl
        refine V_aload_n 0 d_Mod_readDebt_87 rfl rfl ?_
        refine V_getR fa_Mod_17 sk_116 rfl d_Mod_readDebt_88 ?_
        refine V_bipush 86 d_Mod_readDebt_91 (by decide) ?_
        refine V_dup2 d_Mod_readDebt_93 rfl rfl ?_
        refine N_ialdK sk_119 tc_86 (by (first | decide +kernel | omega)) d_Mod_readDebt_94 (kn_nei eh170 (kn_call fh158 (kn_nei eh153 (kn_call fh140 (kn_call fh130 (kn_nei eh125 (kn_call fh8 mK rfl) (by (first | decide +kernel | omega))) rfl) rfl) (by (first | decide +kernel | omega))) rfl) (by (first | decide +kernel | omega))) ?_
        refine V_iconst 1 d_Mod_readDebt_95 (by decide) ?_
        refine V_iadd mE tc_1 (by (first | decide +kernel | omega)) d_Mod_readDebt_96 (fun z174 z174e z174E => ?_)
        refine N_iast sk_119 tc_86 (by (first | decide +kernel | omega)) d_Mod_readDebt_97 (fun h175 eh175 => ?_)
        have hI176 : Inv h175 := inv_put (lo := 0) (hi := 8) hI171 eh175 rfl z174E (by (first | decide +kernel | omega))
        have f177 : fr S_Mod_readDebtX h h175 := fr_put f172 eh175 rfl
        exact V_vret rfl d_Mod_readDebt_98 ⟨rfl, ⟨hI176, f177, o162, o162Z, o162E, (kn_ne eh175 (kn_ne eh170 o162K (by decide)) (by decide)), o163, o163Z, o163E, (kn_ne eh175 (kn_ne eh170 o163K (by decide)) (by decide)), o164, o164Z, o164E, (kn_ne eh175 (kn_ne eh170 o164K (by decide)) (by decide)), o165, o165Z, o165E, (kn_ne eh175 (kn_ne eh170 o165K (by decide)) (by decide)), o166, o166Z, o166E, (kn_ne eh175 (kn_ne eh170 o166K (by decide)) (by decide)), o167, o167Z, o167E, (kn_ne eh175 (kn_ne eh170 o167K (by decide)) (by decide)), ⟨Or.inl ⟨by (first | decide +kernel | omega), (show x_l9 b T p0 = (x_cN b (x_en b p0) 0 3, x_fr b (x_en b p0)) from by unfold x_l9; rw [x_sq_n (c := x_cN b p0 0 3) (by (first | decide +kernel | omega)), x_sq_y (c := x_cN b (x_en b p0) 0 3) (by (first | decide +kernel | omega))]).trans (pq (by (first | decide +kernel | omega)) (by (first | decide +kernel | omega)))⟩, by (first | decide +kernel | omega), by (first | decide +kernel | omega), by (first | decide +kernel | omega)⟩⟩⟩
      ·
        exact absurd c138 (by (first | decide +kernel | omega))
    ·
      replace p131 := p131.resolve_left (fun q => by (first | decide +kernel | omega))
      have g178 := x_cN_0 c137
      refine V_aload_n 0 d_Mod_readDebt_32 rfl rfl ?_
      refine N_getK fa_Mod_102 sk_116 rfl d_Mod_readDebt_33 o134K ?_
      refine V_if_ne 59 o134E d_Mod_readDebt_36 (by decide) (fun c179 => ?_) (fun c179 => ?_)
      ·
        exact absurd c179 (by (first | decide +kernel | omega))
      ·
        refine V_aload_n 0 d_Mod_readDebt_39 rfl rfl ?_
        refine V_iload_n 2 d_Mod_readDebt_40 rfl rfl ?_
        refine V_aload_n 0 d_Mod_readDebt_41 rfl rfl ?_
        refine V_getR fa_Mod_17 sk_116 rfl d_Mod_readDebt_42 ?_
        refine V_iload_n 1 d_Mod_readDebt_45 rfl rfl ?_
        refine N_iald sk_119 z6E (by (first | decide +kernel | omega)) d_Mod_readDebt_46 (fun z180 z180Z z180E z180e => ?_)
        have g181 : z180Z = z7Z := by have q := kn_call fh130 (kn_put eh125) rfl; rw [← z180E, z180e, q]; exact z7E
        have g182 := x_ce_s (x_vl b (x_en b p0)) (x_vl b p0)
        refine V_icmp_eq 54 z129E z180E d_Mod_readDebt_47 (by decide) (fun c183 => ?_) (fun c183 => ?_)
        ·
          refine V_iconst 0 d_Mod_readDebt_54 (by decide) ?_
          refine V_iconst 4 d_Mod_readDebt_55 (by decide) ?_
          refine N_callVV [.int 0, .int 4] [] cv_Mod_144 sk_116 rfl d_Mod_readDebt_56 rfl (Nat.le_of_ble_eq_true rfl) (by decide) (by decide) (c_Mod_needsX h130 hI132 0 0 tc_0 4 4 tc_4 o13 o13Z o13E (kn_call fh130 (kn_ne eh125 o13K (by decide)) rfl) o134 o134Z o134E o134K o135 o135Z o135E o135K) (fun h185 p186 => ?_)
          obtain ⟨hI187, fh185, o189, o189Z, o189E, o189K, o190, o190Z, o190E, o190K, p186⟩ := p186
          have f188 : fr S_Mod_readDebtX h h185 := fr_call f133 fh185 rfl
          refine V_aload_n 0 d_Mod_readDebt_59 rfl rfl ?_
          refine N_callVV [] [] cv_Mod_152 sk_116 rfl d_Mod_readDebt_60 rfl (Nat.le_of_ble_eq_true rfl) (by decide) (by decide) (c_Mod_nextX h185 b hI187 s sZ sE (kn_call fh185 (kn_call fh130 (kn_ne eh125 (kn_call fh8 sK rfl) (by decide)) rfl) rfl) o12 o12Z o12E (kn_call fh185 (kn_call fh130 (kn_ne eh125 o12K (by decide)) rfl) rfl) o13 o13Z o13E (kn_call fh185 (kn_call fh130 (kn_ne eh125 o13K (by decide)) rfl) rfl) o14 o14Z o14E (kn_call fh185 (kn_call fh130 (kn_ne eh125 o14K (by decide)) rfl) rfl) o15 o15Z o15E (kn_call fh185 (kn_call fh130 (kn_ne eh125 o15K (by decide)) rfl) rfl) o189 o189Z o189E o189K o190 o190Z o190E o190K (TP_fr f188 (fun _ => rfl) hy0) (by (first | decide +kernel | omega))) (fun h192 p193 => ?_)
          obtain ⟨hI194, fh192, o196, o196Z, o196E, o196K, o197, o197Z, o197E, o197K, o198, o198Z, o198E, o198K, o199, o199Z, o199E, o199K, o200, o200Z, o200E, o200K, o201, o201Z, o201E, o201K, p193⟩ := p193
          have f195 : fr S_Mod_readDebtX h h192 := fr_call f188 fh192 rfl
          have g202 : 0 ≤ o196Z ∧ o196Z ≤ 160 := inv_at hI194 o196E o196K.symm rfl
          have g203 : 0 ≤ o197Z ∧ o197Z ≤ 160 := inv_at hI194 o197E o197K.symm rfl
          replace p193 := p193.resolve_right (fun q => absurd q.1 (by (first | decide +kernel | omega)))
          refine V_aload_n 0 d_Mod_readDebt_63 rfl rfl ?_
          refine V_getR fa_Mod_17 sk_116 rfl d_Mod_readDebt_64 ?_
          refine V_iload_n 1 d_Mod_readDebt_67 rfl rfl ?_
          refine V_iconst 1 d_Mod_readDebt_68 (by decide) ?_
          refine V_iadd z6E tc_1 (by (first | decide +kernel | omega)) d_Mod_readDebt_69 (fun z204 z204e z204E => ?_)
          refine V_iload_n 2 d_Mod_readDebt_70 rfl rfl ?_
          refine N_iast sk_119 z204E (by (first | decide +kernel | omega)) d_Mod_readDebt_71 (fun h205 eh205 => ?_)
          have hI206 : Inv h205 := inv_put hI194 eh205 (st_a (by (first | decide +kernel | omega))) z129E (by (first | decide +kernel | omega))
          have f207 : fr S_Mod_readDebtX h h205 := fr_put f195 eh205 rfl
          refine V_aload_n 0 d_Mod_readDebt_72 rfl rfl ?_
          refine V_getR fa_Mod_17 sk_116 rfl d_Mod_readDebt_73 ?_
          refine V_iload_n 1 d_Mod_readDebt_76 rfl rfl ?_
          refine V_iconst 2 d_Mod_readDebt_77 (by decide) ?_
          refine V_iadd z6E tc_2 (by (first | decide +kernel | omega)) d_Mod_readDebt_78 (fun z208 z208e z208E => ?_)
          refine V_aload_n 0 d_Mod_readDebt_79 rfl rfl ?_
          refine V_iconst 1 d_Mod_readDebt_80 (by decide) ?_
          refine V_bipush 99 d_Mod_readDebt_81 (by decide) ?_
          refine N_callVI [.int 1, .int 99] [.int z208, .ref 119] cv_Mod_158 sk_116 rfl d_Mod_readDebt_83 rfl (Nat.le_of_ble_eq_true rfl) (by decide) (by decide) (c_Mod_readNumberX h205 b (x_en b (x_en b p0)) hI206 1 1 tc_1 99 99 tc_99 s sZ sE (kn_ne eh205 (kn_call fh192 (kn_call fh185 (kn_call fh130 (kn_ne eh125 (kn_call fh8 sK rfl) (by decide)) rfl) rfl) rfl) (by decide)) o196 o196Z o196E (kn_ne eh205 o196K (by decide)) o197 o197Z o197E (kn_ne eh205 o197K (by decide)) o198 o198Z o198E (kn_ne eh205 o198K (by decide)) o199 o199Z o199E (kn_ne eh205 o199K (by decide)) o200 o200Z o200E (kn_ne eh205 o200K (by decide)) o201 o201Z o201E (kn_ne eh205 o201K (by decide)) (TP_fr f207 (fun _ => rfl) hy0) (by (first | decide +kernel | omega)) (Or.inl (by (first | decide +kernel | omega)))) (fun z209 h210 z209Z z209E p211 => ?_)
          obtain ⟨hI212, fh210, o214, o214Z, o214E, o214K, o215, o215Z, o215E, o215K, o216, o216Z, o216E, o216K, o217, o217Z, o217E, o217K, o218, o218Z, o218E, o218K, o219, o219Z, o219E, o219K, p211⟩ := p211
          have f213 : fr S_Mod_readDebtX h h210 := fr_call f207 fh210 rfl
          have g220 : 0 ≤ o214Z ∧ o214Z ≤ 160 := inv_at hI212 o214E o214K.symm rfl
          have g221 : 0 ≤ o215Z ∧ o215Z ≤ 160 := inv_at hI212 o215E o215K.symm rfl
          replace p211 := And.intro (p211.1.resolve_right (fun q => by (first | decide +kernel | omega))) p211.2
          refine N_iast sk_119 z208E (by (first | decide +kernel | omega)) d_Mod_readDebt_86 (fun h222 eh222 => ?_)
          have hI223 : Inv h222 := inv_full hI212 eh222 (st_b (by (first | decide +kernel | omega)))
          have f224 : fr S_Mod_readDebtX h h222 := fr_put f213 eh222 rfl
          refine V_aload_n 0 d_Mod_readDebt_87 rfl rfl ?_
          refine V_getR fa_Mod_17 sk_116 rfl d_Mod_readDebt_88 ?_
          refine V_bipush 86 d_Mod_readDebt_91 (by decide) ?_
          refine V_dup2 d_Mod_readDebt_93 rfl rfl ?_
          refine N_ialdK sk_119 tc_86 (by (first | decide +kernel | omega)) d_Mod_readDebt_94 (kn_nei eh222 (kn_call fh210 (kn_nei eh205 (kn_call fh192 (kn_call fh185 (kn_call fh130 (kn_nei eh125 (kn_call fh8 mK rfl) (by (first | decide +kernel | omega))) rfl) rfl) rfl) (by (first | decide +kernel | omega))) rfl) (by (first | decide +kernel | omega))) ?_
          refine V_iconst 1 d_Mod_readDebt_95 (by decide) ?_
          refine V_iadd mE tc_1 (by (first | decide +kernel | omega)) d_Mod_readDebt_96 (fun z226 z226e z226E => ?_)
          refine N_iast sk_119 tc_86 (by (first | decide +kernel | omega)) d_Mod_readDebt_97 (fun h227 eh227 => ?_)
          have hI228 : Inv h227 := inv_put (lo := 0) (hi := 8) hI223 eh227 rfl z226E (by (first | decide +kernel | omega))
          have f229 : fr S_Mod_readDebtX h h227 := fr_put f224 eh227 rfl
          exact V_vret rfl d_Mod_readDebt_98 ⟨rfl, ⟨hI228, f229, o214, o214Z, o214E, (kn_ne eh227 (kn_ne eh222 o214K (by decide)) (by decide)), o215, o215Z, o215E, (kn_ne eh227 (kn_ne eh222 o215K (by decide)) (by decide)), o216, o216Z, o216E, (kn_ne eh227 (kn_ne eh222 o216K (by decide)) (by decide)), o217, o217Z, o217E, (kn_ne eh227 (kn_ne eh222 o217K (by decide)) (by decide)), o218, o218Z, o218E, (kn_ne eh227 (kn_ne eh222 o218K (by decide)) (by decide)), o219, o219Z, o219E, (kn_ne eh227 (kn_ne eh222 o219K (by decide)) (by decide)), ⟨Or.inl ⟨by (first | decide +kernel | omega), (show x_l9 b T p0 = (x_ce (x_vl b (x_en b p0)) (x_vl b p0), x_fr b (x_en b p0)) from by unfold x_l9; rw [x_sq_n (c := x_cN b p0 0 3) (by (first | decide +kernel | omega)), x_sq_n (c := x_cN b (x_en b p0) 0 3) (by (first | decide +kernel | omega)), x_sq_y (c := x_ce (x_vl b (x_en b p0)) (x_vl b p0)) (by (first | decide +kernel | omega))]).trans (pq (by (first | decide +kernel | omega)) (by (first | decide +kernel | omega)))⟩, by (first | decide +kernel | omega), by (first | decide +kernel | omega), by (first | decide +kernel | omega)⟩⟩⟩
        ·
          refine V_iconst 1 d_Mod_readDebt_50 (by decide) ?_
          refine V_goto 55 d_Mod_readDebt_51 (by decide) ?_
          refine V_iconst 4 d_Mod_readDebt_55 (by decide) ?_
          refine N_callVV [.int 1, .int 4] [] cv_Mod_144 sk_116 rfl d_Mod_readDebt_56 rfl (Nat.le_of_ble_eq_true rfl) (by decide) (by decide) (c_Mod_needsX h130 hI132 1 1 tc_1 4 4 tc_4 o13 o13Z o13E (kn_call fh130 (kn_ne eh125 o13K (by decide)) rfl) o134 o134Z o134E o134K o135 o135Z o135E o135K) (fun h231 p232 => ?_)
          obtain ⟨hI233, fh231, o235, o235Z, o235E, o235K, o236, o236Z, o236E, o236K, p232⟩ := p232
          have f234 : fr S_Mod_readDebtX h h231 := fr_call f133 fh231 rfl
          have R237 : RM h231 T (x_up D (87 + 3 * D 86) (x_vl b p0)) := RM_fr fh231 rfl R136
          have g238 : x_fr b o12Z = x_fr b (x_en b (x_en b p0)) := congrArg (x_fr b) (by (first | decide +kernel | omega))
          have g239 : x_kd b o12Z = x_kd b (x_en b (x_en b p0)) := congrArg (x_kd b) (by (first | decide +kernel | omega))
          have g240 : x_en b o12Z = x_en b (x_en b (x_en b p0)) := congrArg (x_en b) (by (first | decide +kernel | omega))
          have g241 : x_vl b o12Z = x_vl b (x_en b (x_en b p0)) := congrArg (x_vl b) (by (first | decide +kernel | omega))
          refine V_aload_n 0 d_Mod_readDebt_59 rfl rfl ?_
          refine N_callVV [] [] cv_Mod_152 sk_116 rfl d_Mod_readDebt_60 rfl (Nat.le_of_ble_eq_true rfl) (by decide) (by decide) (c_Mod_nextX h231 b hI233 s sZ sE (kn_call fh231 (kn_call fh130 (kn_ne eh125 (kn_call fh8 sK rfl) (by decide)) rfl) rfl) o12 o12Z o12E (kn_call fh231 (kn_call fh130 (kn_ne eh125 o12K (by decide)) rfl) rfl) o13 o13Z o13E (kn_call fh231 (kn_call fh130 (kn_ne eh125 o13K (by decide)) rfl) rfl) o14 o14Z o14E (kn_call fh231 (kn_call fh130 (kn_ne eh125 o14K (by decide)) rfl) rfl) o15 o15Z o15E (kn_call fh231 (kn_call fh130 (kn_ne eh125 o15K (by decide)) rfl) rfl) o235 o235Z o235E o235K o236 o236Z o236E o236K (TP_fr f234 (fun _ => rfl) hy0) (by (first | decide +kernel | omega))) (fun h243 p244 => ?_)
          obtain ⟨hI245, fh243, o247, o247Z, o247E, o247K, o248, o248Z, o248E, o248K, o249, o249Z, o249E, o249K, o250, o250Z, o250E, o250K, o251, o251Z, o251E, o251K, o252, o252Z, o252E, o252K, p244⟩ := p244
          have f246 : fr S_Mod_readDebtX h h243 := fr_call f234 fh243 rfl
          have R253 : RM h243 T (x_up D (87 + 3 * D 86) (x_vl b p0)) := RM_fr fh243 rfl R237
          have g254 : 0 ≤ o247Z ∧ o247Z ≤ 160 := inv_at hI245 o247E o247K.symm rfl
          have g255 : 0 ≤ o248Z ∧ o248Z ≤ 160 := inv_at hI245 o248E o248K.symm rfl
          rcases (dj2 _ : o251Z ≠ 0 ∨ o251Z = 0) with c256 | c256
          ·
            replace p244 := p244.resolve_left (fun q => absurd (by (first | decide +kernel | omega)) q.1)
            have g257 := x_cN_4 (b := b) (p := (x_en b (x_en b p0))) 1 99 (by (first | decide +kernel | omega))
            refine V_aload_n 0 d_Mod_readDebt_63 rfl rfl ?_
            refine V_getR fa_Mod_17 sk_116 rfl d_Mod_readDebt_64 ?_
            refine V_iload_n 1 d_Mod_readDebt_67 rfl rfl ?_
            refine V_iconst 1 d_Mod_readDebt_68 (by decide) ?_
            refine V_iadd z6E tc_1 (by (first | decide +kernel | omega)) d_Mod_readDebt_69 (fun z258 z258e z258E => ?_)
            refine V_iload_n 2 d_Mod_readDebt_70 rfl rfl ?_
            refine N_iast sk_119 z258E (by (first | decide +kernel | omega)) d_Mod_readDebt_71 (fun h259 eh259 => ?_)
            have hI260 : Inv h259 := inv_put hI245 eh259 (st_a (by (first | decide +kernel | omega))) z129E (by (first | decide +kernel | omega))
            have f261 : fr S_Mod_readDebtX h h259 := fr_put f246 eh259 rfl
            refine V_aload_n 0 d_Mod_readDebt_72 rfl rfl ?_
            refine V_getR fa_Mod_17 sk_116 rfl d_Mod_readDebt_73 ?_
            refine V_iload_n 1 d_Mod_readDebt_76 rfl rfl ?_
            refine V_iconst 2 d_Mod_readDebt_77 (by decide) ?_
            refine V_iadd z6E tc_2 (by (first | decide +kernel | omega)) d_Mod_readDebt_78 (fun z262 z262e z262E => ?_)
            refine V_aload_n 0 d_Mod_readDebt_79 rfl rfl ?_
            refine V_iconst 1 d_Mod_readDebt_80 (by decide) ?_
            refine V_bipush 99 d_Mod_readDebt_81 (by decide) ?_
            refine N_callVI [.int 1, .int 99] [.int z262, .ref 119] cv_Mod_158 sk_116 rfl d_Mod_readDebt_83 rfl (Nat.le_of_ble_eq_true rfl) (by decide) (by decide) (c_Mod_readNumberX h259 b (x_en b (x_en b p0)) hI260 1 1 tc_1 99 99 tc_99 s sZ sE (kn_ne eh259 (kn_call fh243 (kn_call fh231 (kn_call fh130 (kn_ne eh125 (kn_call fh8 sK rfl) (by decide)) rfl) rfl) rfl) (by decide)) o247 o247Z o247E (kn_ne eh259 o247K (by decide)) o248 o248Z o248E (kn_ne eh259 o248K (by decide)) o249 o249Z o249E (kn_ne eh259 o249K (by decide)) o250 o250Z o250E (kn_ne eh259 o250K (by decide)) o251 o251Z o251E (kn_ne eh259 o251K (by decide)) o252 o252Z o252E (kn_ne eh259 o252K (by decide)) (TP_fr f261 (fun _ => rfl) hy0) (by (first | decide +kernel | omega)) (Or.inl (by (first | decide +kernel | omega)))) (fun z263 h264 z263Z z263E p265 => ?_)
            obtain ⟨hI266, fh264, o268, o268Z, o268E, o268K, o269, o269Z, o269E, o269K, o270, o270Z, o270E, o270K, o271, o271Z, o271E, o271K, o272, o272Z, o272E, o272K, o273, o273Z, o273E, o273K, p265⟩ := p265
            have f267 : fr S_Mod_readDebtX h h264 := fr_call f261 fh264 rfl
            have g274 : 0 ≤ o268Z ∧ o268Z ≤ 160 := inv_at hI266 o268E o268K.symm rfl
            have g275 : 0 ≤ o269Z ∧ o269Z ≤ 160 := inv_at hI266 o269E o269K.symm rfl
            replace p265 := And.intro (p265.1.resolve_right (fun q => by (first | decide +kernel | omega))) p265.2
            refine N_iast sk_119 z262E (by (first | decide +kernel | omega)) d_Mod_readDebt_86 (fun h276 eh276 => ?_)
            have hI277 : Inv h276 := inv_full hI266 eh276 (st_b (by (first | decide +kernel | omega)))
            have f278 : fr S_Mod_readDebtX h h276 := fr_put f267 eh276 rfl
            refine V_aload_n 0 d_Mod_readDebt_87 rfl rfl ?_
            refine V_getR fa_Mod_17 sk_116 rfl d_Mod_readDebt_88 ?_
            refine V_bipush 86 d_Mod_readDebt_91 (by decide) ?_
            refine V_dup2 d_Mod_readDebt_93 rfl rfl ?_
            refine N_ialdK sk_119 tc_86 (by (first | decide +kernel | omega)) d_Mod_readDebt_94 (kn_nei eh276 (kn_call fh264 (kn_nei eh259 (kn_call fh243 (kn_call fh231 (kn_call fh130 (kn_nei eh125 (kn_call fh8 mK rfl) (by (first | decide +kernel | omega))) rfl) rfl) rfl) (by (first | decide +kernel | omega))) rfl) (by (first | decide +kernel | omega))) ?_
            refine V_iconst 1 d_Mod_readDebt_95 (by decide) ?_
            refine V_iadd mE tc_1 (by (first | decide +kernel | omega)) d_Mod_readDebt_96 (fun z280 z280e z280E => ?_)
            refine N_iast sk_119 tc_86 (by (first | decide +kernel | omega)) d_Mod_readDebt_97 (fun h281 eh281 => ?_)
            have hI282 : Inv h281 := inv_put (lo := 0) (hi := 8) hI277 eh281 rfl z280E (by (first | decide +kernel | omega))
            have f283 : fr S_Mod_readDebtX h h281 := fr_put f278 eh281 rfl
            exact V_vret rfl d_Mod_readDebt_98 ⟨rfl, ⟨hI282, f283, o268, o268Z, o268E, (kn_ne eh281 (kn_ne eh276 o268K (by decide)) (by decide)), o269, o269Z, o269E, (kn_ne eh281 (kn_ne eh276 o269K (by decide)) (by decide)), o270, o270Z, o270E, (kn_ne eh281 (kn_ne eh276 o270K (by decide)) (by decide)), o271, o271Z, o271E, (kn_ne eh281 (kn_ne eh276 o271K (by decide)) (by decide)), o272, o272Z, o272E, (kn_ne eh281 (kn_ne eh276 o272K (by decide)) (by decide)), o273, o273Z, o273E, (kn_ne eh281 (kn_ne eh276 o273K (by decide)) (by decide)), ⟨Or.inl ⟨by (first | decide +kernel | omega), (show x_l9 b T p0 = (x_cN b (x_en b (x_en b p0)) 1 99, x_fr b (x_en b (x_en b p0))) from by unfold x_l9; rw [x_sq_n (c := x_cN b p0 0 3) (by (first | decide +kernel | omega)), x_sq_n (c := x_cN b (x_en b p0) 0 3) (by (first | decide +kernel | omega)), x_sq_n (c := x_ce (x_vl b (x_en b p0)) (x_vl b p0)) (by (first | decide +kernel | omega)), x_sq_y (c := x_cN b (x_en b (x_en b p0)) 1 99) (by (first | decide +kernel | omega))]).trans (pq (by (first | decide +kernel | omega)) (by (first | decide +kernel | omega)))⟩, by (first | decide +kernel | omega), by (first | decide +kernel | omega), by (first | decide +kernel | omega)⟩⟩⟩
          ·
            replace p244 := p244.resolve_left (fun q => absurd (by (first | decide +kernel | omega)) q.1)
            refine V_aload_n 0 d_Mod_readDebt_63 rfl rfl ?_
            refine V_getR fa_Mod_17 sk_116 rfl d_Mod_readDebt_64 ?_
            refine V_iload_n 1 d_Mod_readDebt_67 rfl rfl ?_
            refine V_iconst 1 d_Mod_readDebt_68 (by decide) ?_
            refine V_iadd z6E tc_1 (by (first | decide +kernel | omega)) d_Mod_readDebt_69 (fun z284 z284e z284E => ?_)
            refine V_iload_n 2 d_Mod_readDebt_70 rfl rfl ?_
            refine N_iast sk_119 z284E (by (first | decide +kernel | omega)) d_Mod_readDebt_71 (fun h285 eh285 => ?_)
            have hI286 : Inv h285 := inv_put hI245 eh285 (st_a (by (first | decide +kernel | omega))) z129E (by (first | decide +kernel | omega))
            have f287 : fr S_Mod_readDebtX h h285 := fr_put f246 eh285 rfl
            have R288 : RM h285 T (x_up (x_up D (87 + 3 * D 86) (x_vl b p0)) (88 + 3 * D 86) (x_vl b (x_en b p0))) := RM_put R253 eh285 (Or.inl ⟨rfl, by (first | decide +kernel | omega), rfl⟩) (z129E.trans (by (first | decide +kernel | omega))) (by (first | decide +kernel | omega))
            refine V_aload_n 0 d_Mod_readDebt_72 rfl rfl ?_
            refine V_getR fa_Mod_17 sk_116 rfl d_Mod_readDebt_73 ?_
            refine V_iload_n 1 d_Mod_readDebt_76 rfl rfl ?_
            refine V_iconst 2 d_Mod_readDebt_77 (by decide) ?_
            refine V_iadd z6E tc_2 (by (first | decide +kernel | omega)) d_Mod_readDebt_78 (fun z289 z289e z289E => ?_)
            refine V_aload_n 0 d_Mod_readDebt_79 rfl rfl ?_
            refine V_iconst 1 d_Mod_readDebt_80 (by decide) ?_
            refine V_bipush 99 d_Mod_readDebt_81 (by decide) ?_
            refine N_callVI [.int 1, .int 99] [.int z289, .ref 119] cv_Mod_158 sk_116 rfl d_Mod_readDebt_83 rfl (Nat.le_of_ble_eq_true rfl) (by decide) (by decide) (c_Mod_readNumberX h285 b (x_en b (x_en b p0)) hI286 1 1 tc_1 99 99 tc_99 s sZ sE (kn_ne eh285 (kn_call fh243 (kn_call fh231 (kn_call fh130 (kn_ne eh125 (kn_call fh8 sK rfl) (by decide)) rfl) rfl) rfl) (by decide)) o247 o247Z o247E (kn_ne eh285 o247K (by decide)) o248 o248Z o248E (kn_ne eh285 o248K (by decide)) o249 o249Z o249E (kn_ne eh285 o249K (by decide)) o250 o250Z o250E (kn_ne eh285 o250K (by decide)) o251 o251Z o251E (kn_ne eh285 o251K (by decide)) o252 o252Z o252E (kn_ne eh285 o252K (by decide)) (TP_fr f287 (fun _ => rfl) hy0) (by (first | decide +kernel | omega)) (Or.inr ⟨by (first | decide +kernel | omega), by (first | decide +kernel | omega), by (first | decide +kernel | omega), by (first | decide +kernel | omega), by (first | decide +kernel | omega), by (first | decide +kernel | omega), by (first | decide +kernel | omega), by (first | decide +kernel | omega), by (first | decide +kernel | omega), by (first | decide +kernel | omega), by (first | decide +kernel | omega)⟩)) (fun z290 h291 z290Z z290E p292 => ?_)
            obtain ⟨hI293, fh291, o295, o295Z, o295E, o295K, o296, o296Z, o296E, o296K, o297, o297Z, o297E, o297K, o298, o298Z, o298E, o298K, o299, o299Z, o299E, o299K, o300, o300Z, o300E, o300K, p292⟩ := p292
            have f294 : fr S_Mod_readDebtX h h291 := fr_call f287 fh291 rfl
            have R301 : RM h291 T (x_up (x_up D (87 + 3 * D 86) (x_vl b p0)) (88 + 3 * D 86) (x_vl b (x_en b p0))) := RM_fr fh291 rfl R288
            have g302 : 0 ≤ o295Z ∧ o295Z ≤ 160 := inv_at hI293 o295E o295K.symm rfl
            have g303 : 0 ≤ o296Z ∧ o296Z ≤ 160 := inv_at hI293 o296E o296K.symm rfl
            rcases (dj3 _ _ : o299Z ≠ 0 ∧ x_cN b (x_en b (x_en b p0)) 1 99 ≠ 0 ∨ o299Z ≠ 0 ∧ x_cN b (x_en b (x_en b p0)) 1 99 = 0 ∨ o299Z = 0) with c304 | c304 | c304
            ·
              replace p292 := And.intro ((p292.1.resolve_left (fun q => by (first | decide +kernel | omega))).resolve_right (fun q => by (first | decide +kernel | omega))) p292.2
              refine N_iast sk_119 z289E (by (first | decide +kernel | omega)) d_Mod_readDebt_86 (fun h305 eh305 => ?_)
              have hI306 : Inv h305 := inv_full hI293 eh305 (st_b (by (first | decide +kernel | omega)))
              have f307 : fr S_Mod_readDebtX h h305 := fr_put f294 eh305 rfl
              refine V_aload_n 0 d_Mod_readDebt_87 rfl rfl ?_
              refine V_getR fa_Mod_17 sk_116 rfl d_Mod_readDebt_88 ?_
              refine V_bipush 86 d_Mod_readDebt_91 (by decide) ?_
              refine V_dup2 d_Mod_readDebt_93 rfl rfl ?_
              refine N_ialdK sk_119 tc_86 (by (first | decide +kernel | omega)) d_Mod_readDebt_94 (kn_nei eh305 (kn_call fh291 (kn_nei eh285 (kn_call fh243 (kn_call fh231 (kn_call fh130 (kn_nei eh125 (kn_call fh8 mK rfl) (by (first | decide +kernel | omega))) rfl) rfl) rfl) (by (first | decide +kernel | omega))) rfl) (by (first | decide +kernel | omega))) ?_
              refine V_iconst 1 d_Mod_readDebt_95 (by decide) ?_
              refine V_iadd mE tc_1 (by (first | decide +kernel | omega)) d_Mod_readDebt_96 (fun z309 z309e z309E => ?_)
              refine N_iast sk_119 tc_86 (by (first | decide +kernel | omega)) d_Mod_readDebt_97 (fun h310 eh310 => ?_)
              have hI311 : Inv h310 := inv_put (lo := 0) (hi := 8) hI306 eh310 rfl z309E (by (first | decide +kernel | omega))
              have f312 : fr S_Mod_readDebtX h h310 := fr_put f307 eh310 rfl
              exact V_vret rfl d_Mod_readDebt_98 ⟨rfl, ⟨hI311, f312, o295, o295Z, o295E, (kn_ne eh310 (kn_ne eh305 o295K (by decide)) (by decide)), o296, o296Z, o296E, (kn_ne eh310 (kn_ne eh305 o296K (by decide)) (by decide)), o297, o297Z, o297E, (kn_ne eh310 (kn_ne eh305 o297K (by decide)) (by decide)), o298, o298Z, o298E, (kn_ne eh310 (kn_ne eh305 o298K (by decide)) (by decide)), o299, o299Z, o299E, (kn_ne eh310 (kn_ne eh305 o299K (by decide)) (by decide)), o300, o300Z, o300E, (kn_ne eh310 (kn_ne eh305 o300K (by decide)) (by decide)), ⟨Or.inl ⟨by (first | decide +kernel | omega), (show x_l9 b T p0 = (x_cN b (x_en b (x_en b p0)) 1 99, x_fr b (x_en b (x_en b p0))) from by unfold x_l9; rw [x_sq_n (c := x_cN b p0 0 3) (by (first | decide +kernel | omega)), x_sq_n (c := x_cN b (x_en b p0) 0 3) (by (first | decide +kernel | omega)), x_sq_n (c := x_ce (x_vl b (x_en b p0)) (x_vl b p0)) (by (first | decide +kernel | omega)), x_sq_y (c := x_cN b (x_en b (x_en b p0)) 1 99) (by (first | decide +kernel | omega))]).trans (pq (by (first | decide +kernel | omega)) (by (first | decide +kernel | omega)))⟩, by (first | decide +kernel | omega), by (first | decide +kernel | omega), by (first | decide +kernel | omega)⟩⟩⟩
            ·
              replace p292 := And.intro ((p292.1.resolve_left (fun q => by (first | decide +kernel | omega))).resolve_left (fun q => by (first | decide +kernel | omega))).2.1 (And.intro ((p292.1.resolve_left (fun q => by (first | decide +kernel | omega))).resolve_left (fun q => by (first | decide +kernel | omega))).2.2.1 (And.intro (((p292.1.resolve_left (fun q => by (first | decide +kernel | omega))).resolve_left (fun q => by (first | decide +kernel | omega))).2.2.2.resolve_right (fun q => by (first | decide +kernel | omega))) p292.2))
              have g313 := x_cN_0 p292.1
              have g314 := x_cS_4 (b := b) (p := (x_en b (x_en b (x_en b p0)))) (by (first | decide +kernel | omega))
              refine N_iast sk_119 z289E (by (first | decide +kernel | omega)) d_Mod_readDebt_86 (fun h315 eh315 => ?_)
              have hI316 : Inv h315 := inv_full hI293 eh315 (st_b (by (first | decide +kernel | omega)))
              have f317 : fr S_Mod_readDebtX h h315 := fr_put f294 eh315 rfl
              refine V_aload_n 0 d_Mod_readDebt_87 rfl rfl ?_
              refine V_getR fa_Mod_17 sk_116 rfl d_Mod_readDebt_88 ?_
              refine V_bipush 86 d_Mod_readDebt_91 (by decide) ?_
              refine V_dup2 d_Mod_readDebt_93 rfl rfl ?_
              refine N_ialdK sk_119 tc_86 (by (first | decide +kernel | omega)) d_Mod_readDebt_94 (kn_nei eh315 (kn_call fh291 (kn_nei eh285 (kn_call fh243 (kn_call fh231 (kn_call fh130 (kn_nei eh125 (kn_call fh8 mK rfl) (by (first | decide +kernel | omega))) rfl) rfl) rfl) (by (first | decide +kernel | omega))) rfl) (by (first | decide +kernel | omega))) ?_
              refine V_iconst 1 d_Mod_readDebt_95 (by decide) ?_
              refine V_iadd mE tc_1 (by (first | decide +kernel | omega)) d_Mod_readDebt_96 (fun z319 z319e z319E => ?_)
              refine N_iast sk_119 tc_86 (by (first | decide +kernel | omega)) d_Mod_readDebt_97 (fun h320 eh320 => ?_)
              have hI321 : Inv h320 := inv_put (lo := 0) (hi := 8) hI316 eh320 rfl z319E (by (first | decide +kernel | omega))
              have f322 : fr S_Mod_readDebtX h h320 := fr_put f317 eh320 rfl
              exact V_vret rfl d_Mod_readDebt_98 ⟨rfl, ⟨hI321, f322, o295, o295Z, o295E, (kn_ne eh320 (kn_ne eh315 o295K (by decide)) (by decide)), o296, o296Z, o296E, (kn_ne eh320 (kn_ne eh315 o296K (by decide)) (by decide)), o297, o297Z, o297E, (kn_ne eh320 (kn_ne eh315 o297K (by decide)) (by decide)), o298, o298Z, o298E, (kn_ne eh320 (kn_ne eh315 o298K (by decide)) (by decide)), o299, o299Z, o299E, (kn_ne eh320 (kn_ne eh315 o299K (by decide)) (by decide)), o300, o300Z, o300E, (kn_ne eh320 (kn_ne eh315 o300K (by decide)) (by decide)), ⟨Or.inl ⟨by (first | decide +kernel | omega), (show x_l9 b T p0 = (x_cS b (x_en b (x_en b (x_en b p0))), x_fr b (x_en b (x_en b (x_en b p0)))) from by unfold x_l9; rw [x_sq_n (c := x_cN b p0 0 3) (by (first | decide +kernel | omega)), x_sq_n (c := x_cN b (x_en b p0) 0 3) (by (first | decide +kernel | omega)), x_sq_n (c := x_ce (x_vl b (x_en b p0)) (x_vl b p0)) (by (first | decide +kernel | omega)), x_sq_n (c := x_cN b (x_en b (x_en b p0)) 1 99) (by (first | decide +kernel | omega)), x_sq_y (c := x_cS b (x_en b (x_en b (x_en b p0)))) (by (first | decide +kernel | omega))]).trans (pq (by (first | decide +kernel | omega)) (by (first | decide +kernel | omega)))⟩, by (first | decide +kernel | omega), by (first | decide +kernel | omega), by (first | decide +kernel | omega)⟩⟩⟩
            ·
              replace p292 := And.intro ((p292.1.resolve_left (fun q => by (first | decide +kernel | omega))).resolve_left (fun q => by (first | decide +kernel | omega))).2.1 (And.intro ((p292.1.resolve_left (fun q => by (first | decide +kernel | omega))).resolve_left (fun q => by (first | decide +kernel | omega))).2.2.1 (And.intro (((p292.1.resolve_left (fun q => by (first | decide +kernel | omega))).resolve_left (fun q => by (first | decide +kernel | omega))).2.2.2.resolve_left (fun q => by (first | decide +kernel | omega))) p292.2))
              have g323 := x_cN_0 p292.1
              refine N_iast sk_119 z289E (by (first | decide +kernel | omega)) d_Mod_readDebt_86 (fun h324 eh324 => ?_)
              have hI325 : Inv h324 := inv_full hI293 eh324 (st_b (by (first | decide +kernel | omega)))
              have f326 : fr S_Mod_readDebtX h h324 := fr_put f294 eh324 rfl
              have R327 : RM h324 T (x_up (x_up (x_up D (87 + 3 * D 86) (x_vl b p0)) (88 + 3 * D 86) (x_vl b (x_en b p0))) (89 + 3 * D 86) (x_vl b (x_en b (x_en b p0)))) := RM_put R301 eh324 (Or.inl ⟨rfl, by (first | decide +kernel | omega), rfl⟩) (z290E.trans (by (first | decide +kernel | omega))) (by (first | decide +kernel | omega))
              refine V_aload_n 0 d_Mod_readDebt_87 rfl rfl ?_
              refine V_getR fa_Mod_17 sk_116 rfl d_Mod_readDebt_88 ?_
              refine V_bipush 86 d_Mod_readDebt_91 (by decide) ?_
              refine V_dup2 d_Mod_readDebt_93 rfl rfl ?_
              refine N_ialdK sk_119 tc_86 (by (first | decide +kernel | omega)) d_Mod_readDebt_94 (kn_nei eh324 (kn_call fh291 (kn_nei eh285 (kn_call fh243 (kn_call fh231 (kn_call fh130 (kn_nei eh125 (kn_call fh8 mK rfl) (by (first | decide +kernel | omega))) rfl) rfl) rfl) (by (first | decide +kernel | omega))) rfl) (by (first | decide +kernel | omega))) ?_
              refine V_iconst 1 d_Mod_readDebt_95 (by decide) ?_
              refine V_iadd mE tc_1 (by (first | decide +kernel | omega)) d_Mod_readDebt_96 (fun z329 z329e z329E => ?_)
              refine N_iast sk_119 tc_86 (by (first | decide +kernel | omega)) d_Mod_readDebt_97 (fun h330 eh330 => ?_)
              have hI331 : Inv h330 := inv_put (lo := 0) (hi := 8) hI325 eh330 rfl z329E (by (first | decide +kernel | omega))
              have f332 : fr S_Mod_readDebtX h h330 := fr_put f326 eh330 rfl
              have R333 : RM h330 T (x_up (x_up (x_up (x_up D (87 + 3 * D 86) (x_vl b p0)) (88 + 3 * D 86) (x_vl b (x_en b p0))) (89 + 3 * D 86) (x_vl b (x_en b (x_en b p0)))) 86 (D 86 + 1)) := RM_put R327 eh330 (Or.inl ⟨rfl, by (first | decide +kernel | omega), rfl⟩) (z329E.trans (by (first | decide +kernel | omega))) (by (first | decide +kernel | omega))
              exact V_vret rfl d_Mod_readDebt_98 ⟨rfl, ⟨hI331, f332, o295, o295Z, o295E, (kn_ne eh330 (kn_ne eh324 o295K (by decide)) (by decide)), o296, o296Z, o296E, (kn_ne eh330 (kn_ne eh324 o296K (by decide)) (by decide)), o297, o297Z, o297E, (kn_ne eh330 (kn_ne eh324 o297K (by decide)) (by decide)), o298, o298Z, o298E, (kn_ne eh330 (kn_ne eh324 o298K (by decide)) (by decide)), o299, o299Z, o299E, (kn_ne eh330 (kn_ne eh324 o299K (by decide)) (by decide)), o300, o300Z, o300E, (kn_ne eh330 (kn_ne eh324 o300K (by decide)) (by decide)), ⟨Or.inr ⟨by (first | decide +kernel | omega), by unfold x_l9; rw [x_sq_n (c := x_cN b p0 0 3) (by (first | decide +kernel | omega)), x_sq_n (c := x_cN b (x_en b p0) 0 3) (by (first | decide +kernel | omega)), x_sq_n (c := x_ce (x_vl b (x_en b p0)) (x_vl b p0)) (by (first | decide +kernel | omega)), x_sq_n (c := x_cN b (x_en b (x_en b p0)) 1 99) (by (first | decide +kernel | omega))], p292.2.2.1.2, R333⟩, by (first | decide +kernel | omega), by (first | decide +kernel | omega), by (first | decide +kernel | omega)⟩⟩⟩
end
