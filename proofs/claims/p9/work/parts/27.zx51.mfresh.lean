section
def S_Mod_readFreshX_4 : List (Nat × Option Nat) := [(116, some 16), (116, some 17), (116, some 18), (116, some 19), (116, some 20), (116, some 21), (120, some 0), (116, some 13)]
abbrev q_Mod_readFreshX_4 (h : Hp) (b : Int → Int) (T : Nat → Int → Int) (D : Nat → Int) (p0 : Int) (s : Int32) (sZ : Int) (p : Int32) (pZ : Int) (g : Int32) (gZ : Int) (k : Int32) (kZ : Int) (v : Int32) (vZ : Int) (w : Int32) (wZ : Int) (a : Int32) (aZ : Int) (z : Int32) (zZ : Int) (i : Int32) (iZ : Int) : Option Value → Hp → Prop := pInt (fun r h' => Inv h' ∧ fr S_Mod_readFreshX_4 h h' ∧ ∃ (q : Int32) (qZ : Int), q.toInt = qZ ∧ h'.1 116 16 = q ∧ ∃ (f : Int32) (fZ : Int), f.toInt = fZ ∧ h'.1 116 17 = f ∧ ∃ (m : Int32) (mZ : Int), m.toInt = mZ ∧ h'.1 116 18 = m ∧ ∃ (x : Int32) (xZ : Int), x.toInt = xZ ∧ h'.1 116 19 = x ∧ ∃ (u : Int32) (uZ : Int), u.toInt = uZ ∧ h'.1 116 20 = u ∧ ∃ (y : Int32) (yZ : Int), y.toInt = yZ ∧ h'.1 116 21 = y ∧ ((x_cN b p0 0 15 ≠ 0 ∧ uZ = x_cN b p0 0 15 ∧ yZ = x_fr b p0 ∨ x_cN b p0 0 15 = 0 ∧ x_c4 (T 1 (x_vl b p0)) ≠ 0 ∧ uZ = 4 ∧ yZ = x_fr b p0 ∨ x_cN b p0 0 15 = 0 ∧ x_c4 (T 1 (x_vl b p0)) = 0 ∧ r.toInt = x_vl b p0 ∧ (uZ = 1 ∧ x_kd b (x_en b p0) = 4 ∧ yZ = x_fr b (x_en b p0) ∨ uZ = 0 ∧ fZ = x_fr b (x_en b p0) ∧ mZ = x_kd b (x_en b p0) ∧ mZ ≠ 4 ∧ 0 ≤ mZ ∧ mZ ≤ 3 ∧ qZ = x_en b (x_en b p0) ∧ (mZ ≠ 2 ∨ xZ = x_vl b (x_en b p0) ∧ 0 ≤ xZ ∧ xZ ≤ 99) ∧ (x_en b p0) ≤ fZ ∧ fZ ≤ qZ ∧ qZ ≤ sZ ∧ (mZ = 0 ∨ fZ < qZ)) ∧ RM h' (x_upT T 1 (x_vl b p0)) D) ∧ 0 ≤ qZ ∧ qZ ≤ sZ ∧ 0 ≤ uZ ∧ 0 ≤ r.toInt ∧ r.toInt ≤ 15))
set_option maxRecDepth 100000 in
theorem c_Mod_readFreshX_4 (h : Hp) (b : Int → Int) (T : Nat → Int → Int) (D : Nat → Int) (p0 : Int) (hI : Inv h) (s : Int32) (sZ : Int) (sE : s.toInt = sZ) (sK : h.1 116 15 = s) (p : Int32) (pZ : Int) (pE : p.toInt = pZ) (pK : h.1 116 16 = p) (g : Int32) (gZ : Int) (gE : g.toInt = gZ) (gK : h.1 116 17 = g) (k : Int32) (kZ : Int) (kE : k.toInt = kZ) (kK : h.1 116 18 = k) (v : Int32) (vZ : Int) (vE : v.toInt = vZ) (vK : h.1 116 19 = v) (w : Int32) (wZ : Int) (wE : w.toInt = wZ) (wK : h.1 116 20 = w) (a : Int32) (aZ : Int) (aE : a.toInt = aZ) (aK : h.1 116 21 = a) (z : Int32) (zZ : Int) (zE : z.toInt = zZ) (zK : h.1 120 0 = z) (i : Int32) (iZ : Int) (iE : i.toInt = iZ) (iK : h.1 116 13 = i) (hy0 : TP h 121 sZ b) (hy1 : 0 ≤ pZ ∧ pZ ≤ sZ ∧ wZ = 0) (hy2 : gZ = x_fr b p0 ∧ kZ = x_kd b p0 ∧ kZ ≠ 4 ∧ 0 ≤ kZ ∧ kZ ≤ 3 ∧ pZ = x_en b p0 ∧ (kZ ≠ 2 ∨ vZ = x_vl b p0 ∧ 0 ≤ vZ ∧ vZ ≤ 99) ∧ p0 ≤ gZ ∧ gZ ≤ pZ ∧ pZ ≤ sZ ∧ (kZ = 0 ∨ gZ < pZ)) (hy3 : RM h T D) : Ct y_Mod_readFresh b_Mod_readFresh 4 (some .int) 2 47 [.ref 116, .int 4, .int 15] h (q_Mod_readFreshX_4 h b T D p0 s sZ p pZ g gZ k kZ v vZ w wZ a aZ z zZ i iZ) := by
  refine ct_ow R_Mod [some (.ref 116), some (.int 4), some (.int 15), none] rfl (by decide) rfl (Nat.le_of_ble_eq_true rfl) ?_
  have f0 : fr S_Mod_readFreshX_4 h h := fr_rf
  have g1 : 0 ≤ sZ ∧ sZ ≤ 160 := inv_at hI sE sK.symm rfl
  have g2 : 0 ≤ pZ ∧ pZ ≤ 160 := inv_at hI pE pK.symm rfl
  have g3 : 0 ≤ gZ ∧ gZ ≤ 160 := inv_at hI gE gK.symm rfl
  refine V_aload_n 0 d_Mod_readFresh_0 rfl rfl ?_
  refine V_iconst 0 d_Mod_readFresh_1 (by decide) ?_
  refine V_iload_n 2 d_Mod_readFresh_2 rfl rfl ?_
  refine N_callVI [.int 0, .int 15] [] cv_Mod_148 sk_116 rfl d_Mod_readFresh_3 rfl (Nat.le_of_ble_eq_true rfl) (by decide) (by decide) (c_Mod_lookedX h hI 0 0 tc_0 15 15 tc_15 g gZ gE gK k kZ kE kK v vZ vE vK w wZ wE wK a aZ aE aK) (fun z4 h5 z4Z z4E p6 => ?_)
  obtain ⟨hI7, fh5, o9, o9Z, o9E, o9K, o10, o10Z, o10E, o10K, p6⟩ := p6
  have f8 : fr S_Mod_readFreshX_4 h h5 := fr_call f0 fh5 rfl
  have R11 : RM h5 T D := RM_fr fh5 rfl hy3
  refine V_istore_n 3 [some (.ref 116), some (.int 4), some (.int 15), some (.int z4)] d_Mod_readFresh_6 rfl (by decide) rfl rfl ?_
  replace p6 := lk_all hy2 hy1.2.2 p6
  replace hy2 := lx_s hy2
  have g12 : x_fr b pZ = x_fr b (x_en b p0) := congrArg (x_fr b) (by (first | decide +kernel | with_reducible assumption | omega))
  have g13 : x_kd b pZ = x_kd b (x_en b p0) := congrArg (x_kd b) (by (first | decide +kernel | with_reducible assumption | omega))
  have g14 : x_en b pZ = x_en b (x_en b p0) := congrArg (x_en b) (by (first | decide +kernel | with_reducible assumption | omega))
  have g15 : x_vl b pZ = x_vl b (x_en b p0) := congrArg (x_vl b) (by (first | decide +kernel | with_reducible assumption | omega))
  refine V_aload_n 0 d_Mod_readFresh_7 rfl rfl ?_
  refine N_getK fa_Mod_102 sk_116 rfl d_Mod_readFresh_8 o9K ?_
  refine V_if_ne 39 o9E d_Mod_readFresh_11 (by decide) (fun c16 => ?_) (fun c16 => ?_)
  ·
    replace p6 := And.intro p6.1 (p6.2.resolve_right (fun q => by (first | decide +kernel | with_reducible assumption | omega)))
    refine V_aload_n 0 d_Mod_readFresh_39 rfl rfl ?_
    refine N_getK fa_Mod_102 sk_116 rfl d_Mod_readFresh_40 o9K ?_
    refine V_if_ne 86 o9E d_Mod_readFresh_43 (by decide) (fun c17 => ?_) (fun c17 => ?_)
    ·
      refine V_aload_n 0 d_Mod_readFresh_86 rfl rfl ?_
      refine N_callVV [] [] cv_Mod_152 sk_116 rfl d_Mod_readFresh_87 rfl (Nat.le_of_ble_eq_true rfl) (by decide) (by decide) (c_Mod_nextX h5 b hI7 s sZ sE (kn_call fh5 sK rfl) p pZ pE (kn_call fh5 pK rfl) g gZ gE (kn_call fh5 gK rfl) k kZ kE (kn_call fh5 kK rfl) v vZ vE (kn_call fh5 vK rfl) o9 o9Z o9E o9K o10 o10Z o10E o10K (TP_fr f8 (fun _ => rfl) hy0) (by (first | decide +kernel | with_reducible assumption | omega))) (fun h19 p20 => ?_)
      obtain ⟨hI21, fh19, o23, o23Z, o23E, o23K, o24, o24Z, o24E, o24K, o25, o25Z, o25E, o25K, o26, o26Z, o26E, o26K, o27, o27Z, o27E, o27K, o28, o28Z, o28E, o28K, p20⟩ := p20
      have f22 : fr S_Mod_readFreshX_4 h h19 := fr_call f8 fh19 rfl
      have R29 : RM h19 T D := RM_fr fh19 rfl R11
      have g30 : 0 ≤ o23Z ∧ o23Z ≤ 160 := inv_at hI21 o23E o23K.symm rfl
      have g31 : 0 ≤ o24Z ∧ o24Z ≤ 160 := inv_at hI21 o24E o24K.symm rfl
      replace p20 := p20.resolve_right (fun q => by (first | decide +kernel | with_reducible assumption | omega))
      refine V_iload_n 3 d_Mod_readFresh_90 rfl rfl ?_
      exact V_iret rfl d_Mod_readFresh_91 ⟨z4, rfl, ⟨hI21, f22, o23, o23Z, o23E, o23K, o24, o24Z, o24E, o24K, o25, o25Z, o25E, o25K, o26, o26Z, o26E, o26K, o27, o27Z, o27E, o27K, o28, o28Z, o28E, o28K, ⟨(Or.inl (⟨by (first | decide +kernel | with_reducible assumption | omega), by (first | decide +kernel | with_reducible assumption | omega), by (first | decide +kernel | with_reducible assumption | omega)⟩)), by (first | decide +kernel | with_reducible assumption | omega), by (first | decide +kernel | with_reducible assumption | omega), by (first | decide +kernel | with_reducible assumption | omega), by rw [z4E]; omega, by rw [z4E]; omega⟩⟩⟩
    ·
      exact absurd c17 (by (first | decide +kernel | with_reducible assumption | omega))
  ·
    replace p6 := And.intro p6.1 (p6.2.resolve_left (fun q => by (first | decide +kernel | with_reducible assumption | omega)))
    refine V_aload_n 0 d_Mod_readFresh_14 rfl rfl ?_
    refine V_aload_n 0 d_Mod_readFresh_15 rfl rfl ?_
    refine V_getR fa_Mod_20 sk_116 rfl d_Mod_readFresh_16 ?_
    refine V_iload_n 1 d_Mod_readFresh_19 rfl rfl ?_
    refine V_iconst 4 d_Mod_readFresh_20 (by decide) ?_
    refine V_isubw d_Mod_readFresh_21 (fun z32 z32e => ?_)
    obtain rfl : z32 = 0 := z32e.trans (by decide)
    refine N_ialdK sk_120 tc_0 (by (first | decide +kernel | with_reducible assumption | omega)) d_Mod_readFresh_22 (kn_call fh5 zK rfl) ?_
    refine V_iload_n 3 d_Mod_readFresh_23 rfl rfl ?_
    refine N_ishr d_Mod_readFresh_24 (fun z34 z34Z z34E z34e => ?_)
    refine V_iconst 1 d_Mod_readFresh_25 (by decide) ?_
    refine N_iand d_Mod_readFresh_26 (fun z35 z35Z z35E z35e => ?_)
    have g36 : z35Z = T 1 z4Z := x_bt_of (RM_had R11 (by decide) (by decide) (kn_call fh5 zK rfl)) (by (first | decide +kernel | with_reducible assumption | omega)) (by (first | decide +kernel | with_reducible assumption | omega)) z4E z35E (by assumption) (by assumption)
    have g37 : T 1 z4Z = T 1 (x_vl b p0) := congrArg (T 1) (by (first | decide +kernel | with_reducible assumption | omega))
    have g38 := x_c4_s (T 1 (x_vl b p0))
    refine V_if_ne 34 z35E d_Mod_readFresh_27 (by decide) (fun c39 => ?_) (fun c39 => ?_)
    ·
      replace g38 := g38.resolve_left (fun q => by (first | decide +kernel | with_reducible assumption | omega))
      refine V_iconst 0 d_Mod_readFresh_34 (by decide) ?_
      refine V_iconst 4 d_Mod_readFresh_35 (by decide) ?_
      refine N_callVV [.int 0, .int 4] [] cv_Mod_144 sk_116 rfl d_Mod_readFresh_36 rfl (Nat.le_of_ble_eq_true rfl) (by decide) (by decide) (c_Mod_needsX h5 hI7 0 0 tc_0 4 4 tc_4 g gZ gE (kn_call fh5 gK rfl) o9 o9Z o9E o9K o10 o10Z o10E o10K) (fun h41 p42 => ?_)
      obtain ⟨hI43, fh41, o45, o45Z, o45E, o45K, o46, o46Z, o46E, o46K, p42⟩ := p42
      have f44 : fr S_Mod_readFreshX_4 h h41 := fr_call f8 fh41 rfl
      have R47 : RM h41 T D := RM_fr fh41 rfl R11
      replace p42 := (p42.resolve_left (by (first | decide +kernel | with_reducible assumption | omega))).2.2
      refine V_aload_n 0 d_Mod_readFresh_39 rfl rfl ?_
      refine N_getK fa_Mod_102 sk_116 rfl d_Mod_readFresh_40 o45K ?_
      refine V_if_ne 86 o45E d_Mod_readFresh_43 (by decide) (fun c48 => ?_) (fun c48 => ?_)
      ·
        refine V_aload_n 0 d_Mod_readFresh_86 rfl rfl ?_
        refine N_callVV [] [] cv_Mod_152 sk_116 rfl d_Mod_readFresh_87 rfl (Nat.le_of_ble_eq_true rfl) (by decide) (by decide) (c_Mod_nextX h41 b hI43 s sZ sE (kn_call fh41 (kn_call fh5 sK rfl) rfl) p pZ pE (kn_call fh41 (kn_call fh5 pK rfl) rfl) g gZ gE (kn_call fh41 (kn_call fh5 gK rfl) rfl) k kZ kE (kn_call fh41 (kn_call fh5 kK rfl) rfl) v vZ vE (kn_call fh41 (kn_call fh5 vK rfl) rfl) o45 o45Z o45E o45K o46 o46Z o46E o46K (TP_fr f44 (fun _ => rfl) hy0) (by (first | decide +kernel | with_reducible assumption | omega))) (fun h50 p51 => ?_)
        obtain ⟨hI52, fh50, o54, o54Z, o54E, o54K, o55, o55Z, o55E, o55K, o56, o56Z, o56E, o56K, o57, o57Z, o57E, o57K, o58, o58Z, o58E, o58K, o59, o59Z, o59E, o59K, p51⟩ := p51
        have f53 : fr S_Mod_readFreshX_4 h h50 := fr_call f44 fh50 rfl
        have R60 : RM h50 T D := RM_fr fh50 rfl R47
        have g61 : 0 ≤ o54Z ∧ o54Z ≤ 160 := inv_at hI52 o54E o54K.symm rfl
        have g62 : 0 ≤ o55Z ∧ o55Z ≤ 160 := inv_at hI52 o55E o55K.symm rfl
        replace p51 := p51.resolve_right (fun q => by (first | decide +kernel | with_reducible assumption | omega))
        refine V_iload_n 3 d_Mod_readFresh_90 rfl rfl ?_
        exact V_iret rfl d_Mod_readFresh_91 ⟨z4, rfl, ⟨hI52, f53, o54, o54Z, o54E, o54K, o55, o55Z, o55E, o55K, o56, o56Z, o56E, o56K, o57, o57Z, o57E, o57K, o58, o58Z, o58E, o58K, o59, o59Z, o59E, o59K, ⟨(Or.inr (Or.inl (⟨by (first | decide +kernel | with_reducible assumption | omega), by (first | decide +kernel | with_reducible assumption | omega), by (first | decide +kernel | with_reducible assumption | omega), by (first | decide +kernel | with_reducible assumption | omega)⟩))), by (first | decide +kernel | with_reducible assumption | omega), by (first | decide +kernel | with_reducible assumption | omega), by (first | decide +kernel | with_reducible assumption | omega), by rw [z4E]; omega, by rw [z4E]; omega⟩⟩⟩
      ·
        exact absurd c48 (by (first | decide +kernel | with_reducible assumption | omega))
    ·
      replace g38 := g38.resolve_right (fun q => by (first | decide +kernel | with_reducible assumption | omega))
      refine V_iconst 1 d_Mod_readFresh_30 (by decide) ?_
      refine V_goto 35 d_Mod_readFresh_31 (by decide) ?_
      refine V_iconst 4 d_Mod_readFresh_35 (by decide) ?_
      refine N_callVV [.int 1, .int 4] [] cv_Mod_144 sk_116 rfl d_Mod_readFresh_36 rfl (Nat.le_of_ble_eq_true rfl) (by decide) (by decide) (c_Mod_needsX h5 hI7 1 1 tc_1 4 4 tc_4 g gZ gE (kn_call fh5 gK rfl) o9 o9Z o9E o9K o10 o10Z o10E o10K) (fun h64 p65 => ?_)
      obtain ⟨hI66, fh64, o68, o68Z, o68E, o68K, o69, o69Z, o69E, o69K, p65⟩ := p65
      have f67 : fr S_Mod_readFreshX_4 h h64 := fr_call f8 fh64 rfl
      have R70 : RM h64 T D := RM_fr fh64 rfl R11
      replace p65 := (p65.resolve_right (by (first | decide +kernel | with_reducible assumption | omega))).2
      refine V_aload_n 0 d_Mod_readFresh_39 rfl rfl ?_
      refine N_getK fa_Mod_102 sk_116 rfl d_Mod_readFresh_40 o68K ?_
      refine V_if_ne 86 o68E d_Mod_readFresh_43 (by decide) (fun c71 => ?_) (fun c71 => ?_)
      ·
        exact absurd c71 (by (first | decide +kernel | with_reducible assumption | omega))
      ·
        refine V_aload_n 0 d_Mod_readFresh_46 rfl rfl ?_
        refine V_getR fa_Mod_20 sk_116 rfl d_Mod_readFresh_47 ?_
        refine V_iload_n 1 d_Mod_readFresh_50 rfl rfl ?_
        refine V_iconst 4 d_Mod_readFresh_51 (by decide) ?_
        refine V_isubw d_Mod_readFresh_52 (fun z72 z72e => ?_)
        obtain rfl : z72 = 0 := z72e.trans (by decide)
        refine V_dup2 d_Mod_readFresh_53 rfl rfl ?_
        refine N_ialdK sk_120 tc_0 (by (first | decide +kernel | with_reducible assumption | omega)) d_Mod_readFresh_54 (kn_call fh64 (kn_call fh5 zK rfl) rfl) ?_
        refine V_iconst 1 d_Mod_readFresh_55 (by decide) ?_
        refine V_iload_n 3 d_Mod_readFresh_56 rfl rfl ?_
        refine N_ishl d_Mod_readFresh_57 (fun z74 z74Z z74E z74e => ?_)
        refine N_ior d_Mod_readFresh_58 (fun z75 z75Z z75E z75e => ?_)
        refine N_iast sk_120 tc_0 (by (first | decide +kernel | with_reducible assumption | omega)) d_Mod_readFresh_59 (fun h76 eh76 => ?_)
        have hI77 : Inv h76 := inv_full hI66 eh76 rfl
        have f78 : fr S_Mod_readFreshX_4 h h76 := fr_put f67 eh76 rfl
        refine V_aload_n 0 d_Mod_readFresh_60 rfl rfl ?_
        refine V_iload_n 1 d_Mod_readFresh_61 rfl rfl ?_
        refine V_bipush 8 d_Mod_readFresh_62 (by decide) ?_
        refine V_icmp_ge 79 tc_4 tc_8 d_Mod_readFresh_64 (by decide) (fun c80 => ?_) (fun c80 => ?_)
        ·
          exact absurd c80 (by decide)
        ·
          refine V_iload_n 3 d_Mod_readFresh_67 rfl rfl ?_
          refine V_aload_n 0 d_Mod_readFresh_68 rfl rfl ?_
          refine N_getK fa_Mod_78 sk_116 rfl d_Mod_readFresh_69 (kn_ne eh76 (kn_call fh64 (kn_call fh5 iK rfl) rfl) (by decide)) ?_
          refine V_icmp_le 79 z4E iE d_Mod_readFresh_72 (by decide) (fun c81 => ?_) (fun c81 => ?_)
          ·
            refine V_aload_n 0 d_Mod_readFresh_79 rfl rfl ?_
            refine N_getK fa_Mod_78 sk_116 rfl d_Mod_readFresh_80 (kn_ne eh76 (kn_call fh64 (kn_call fh5 iK rfl) rfl) (by decide)) ?_
            refine N_putI fp_Mod_78 sk_116 rfl d_Mod_readFresh_83 (fun h82 eh82 => ?_)
            have hI83 : Inv h82 := inv_full hI77 eh82 rfl
            have f84 : fr S_Mod_readFreshX_4 h h82 := fr_put f78 eh82 rfl
            have R85 : RM h82 (x_upT T 1 (x_vl b p0)) D := RM_fresh (l := 1) R70 ⟨by decide, by decide⟩ eh76 (kn_call fh64 (kn_call fh5 zK rfl) rfl) (by (first | decide +kernel | with_reducible assumption | omega)) (z4E.trans (by (first | decide +kernel | with_reducible assumption | omega))) (by assumption) (by assumption) rfl eh82 iE ((congrArg Int32.toInt (kn_call fh64 (kn_call fh5 iK rfl) rfl)).trans iE) (Or.inl ⟨by decide, by (first | decide +kernel | with_reducible assumption | omega)⟩)
            refine V_aload_n 0 d_Mod_readFresh_86 rfl rfl ?_
            refine N_callVV [] [] cv_Mod_152 sk_116 rfl d_Mod_readFresh_87 rfl (Nat.le_of_ble_eq_true rfl) (by decide) (by decide) (c_Mod_nextX h82 b hI83 s sZ sE (kn_nei eh82 (kn_ne eh76 (kn_call fh64 (kn_call fh5 sK rfl) rfl) (by decide)) (by decide)) p pZ pE (kn_nei eh82 (kn_ne eh76 (kn_call fh64 (kn_call fh5 pK rfl) rfl) (by decide)) (by decide)) g gZ gE (kn_nei eh82 (kn_ne eh76 (kn_call fh64 (kn_call fh5 gK rfl) rfl) (by decide)) (by decide)) k kZ kE (kn_nei eh82 (kn_ne eh76 (kn_call fh64 (kn_call fh5 kK rfl) rfl) (by decide)) (by decide)) v vZ vE (kn_nei eh82 (kn_ne eh76 (kn_call fh64 (kn_call fh5 vK rfl) rfl) (by decide)) (by decide)) o68 o68Z o68E (kn_nei eh82 (kn_ne eh76 o68K (by decide)) (by decide)) o69 o69Z o69E (kn_nei eh82 (kn_ne eh76 o69K (by decide)) (by decide)) (TP_fr f84 (fun _ => rfl) hy0) (by (first | decide +kernel | with_reducible assumption | omega))) (fun h87 p88 => ?_)
            obtain ⟨hI89, fh87, o91, o91Z, o91E, o91K, o92, o92Z, o92E, o92K, o93, o93Z, o93E, o93K, o94, o94Z, o94E, o94K, o95, o95Z, o95E, o95K, o96, o96Z, o96E, o96K, p88⟩ := p88
            have f90 : fr S_Mod_readFreshX_4 h h87 := fr_call f84 fh87 rfl
            have R97 : RM h87 (x_upT T 1 (x_vl b p0)) D := RM_fr fh87 rfl R85
            have g98 : 0 ≤ o91Z ∧ o91Z ≤ 160 := inv_at hI89 o91E o91K.symm rfl
            have g99 : 0 ≤ o92Z ∧ o92Z ≤ 160 := inv_at hI89 o92E o92K.symm rfl
            replace p88 := p88.resolve_left (fun q => by (first | decide +kernel | with_reducible assumption | omega))
            refine V_iload_n 3 d_Mod_readFresh_90 rfl rfl ?_
            exact V_iret rfl d_Mod_readFresh_91 ⟨z4, rfl, ⟨hI89, f90, o91, o91Z, o91E, o91K, o92, o92Z, o92E, o92K, o93, o93Z, o93E, o93K, o94, o94Z, o94E, o94K, o95, o95Z, o95E, o95K, o96, o96Z, o96E, o96K, ⟨(Or.inr (Or.inr (⟨by (first | decide +kernel | with_reducible assumption | omega), by (first | decide +kernel | with_reducible assumption | omega), by rw [z4E]; omega, (if q9 : o95Z = 0 then Or.inr ⟨q9, by (first | decide +kernel | with_reducible assumption | omega), by (first | decide +kernel | with_reducible assumption | omega), by (first | decide +kernel | with_reducible assumption | omega), by (first | decide +kernel | with_reducible assumption | omega), by (first | decide +kernel | with_reducible assumption | omega), by (first | decide +kernel | with_reducible assumption | omega), by (first | decide +kernel | with_reducible assumption | omega), by (first | decide +kernel | with_reducible assumption | omega), by (first | decide +kernel | with_reducible assumption | omega), by (first | decide +kernel | with_reducible assumption | omega), by (first | decide +kernel | with_reducible assumption | omega)⟩ else Or.inl ⟨by (first | decide +kernel | with_reducible assumption | omega), by (first | decide +kernel | with_reducible assumption | omega), by (first | decide +kernel | with_reducible assumption | omega)⟩), R97⟩))), by (first | decide +kernel | with_reducible assumption | omega), by (first | decide +kernel | with_reducible assumption | omega), by (first | decide +kernel | with_reducible assumption | omega), by rw [z4E]; omega, by rw [z4E]; omega⟩⟩⟩
          ·
            refine V_iload_n 3 d_Mod_readFresh_75 rfl rfl ?_
            refine V_goto 83 d_Mod_readFresh_76 (by decide) ?_
            refine N_putI fp_Mod_78 sk_116 rfl d_Mod_readFresh_83 (fun h100 eh100 => ?_)
            have hI101 : Inv h100 := inv_full hI77 eh100 rfl
            have f102 : fr S_Mod_readFreshX_4 h h100 := fr_put f78 eh100 rfl
            have R103 : RM h100 (x_upT T 1 (x_vl b p0)) D := RM_fresh (l := 1) R70 ⟨by decide, by decide⟩ eh76 (kn_call fh64 (kn_call fh5 zK rfl) rfl) (by (first | decide +kernel | with_reducible assumption | omega)) (z4E.trans (by (first | decide +kernel | with_reducible assumption | omega))) (by assumption) (by assumption) rfl eh100 z4E ((congrArg Int32.toInt (kn_call fh64 (kn_call fh5 iK rfl) rfl)).trans iE) (Or.inl ⟨by decide, by (first | decide +kernel | with_reducible assumption | omega)⟩)
            refine V_aload_n 0 d_Mod_readFresh_86 rfl rfl ?_
            refine N_callVV [] [] cv_Mod_152 sk_116 rfl d_Mod_readFresh_87 rfl (Nat.le_of_ble_eq_true rfl) (by decide) (by decide) (c_Mod_nextX h100 b hI101 s sZ sE (kn_nei eh100 (kn_ne eh76 (kn_call fh64 (kn_call fh5 sK rfl) rfl) (by decide)) (by decide)) p pZ pE (kn_nei eh100 (kn_ne eh76 (kn_call fh64 (kn_call fh5 pK rfl) rfl) (by decide)) (by decide)) g gZ gE (kn_nei eh100 (kn_ne eh76 (kn_call fh64 (kn_call fh5 gK rfl) rfl) (by decide)) (by decide)) k kZ kE (kn_nei eh100 (kn_ne eh76 (kn_call fh64 (kn_call fh5 kK rfl) rfl) (by decide)) (by decide)) v vZ vE (kn_nei eh100 (kn_ne eh76 (kn_call fh64 (kn_call fh5 vK rfl) rfl) (by decide)) (by decide)) o68 o68Z o68E (kn_nei eh100 (kn_ne eh76 o68K (by decide)) (by decide)) o69 o69Z o69E (kn_nei eh100 (kn_ne eh76 o69K (by decide)) (by decide)) (TP_fr f102 (fun _ => rfl) hy0) (by (first | decide +kernel | with_reducible assumption | omega))) (fun h105 p106 => ?_)
            obtain ⟨hI107, fh105, o109, o109Z, o109E, o109K, o110, o110Z, o110E, o110K, o111, o111Z, o111E, o111K, o112, o112Z, o112E, o112K, o113, o113Z, o113E, o113K, o114, o114Z, o114E, o114K, p106⟩ := p106
            have f108 : fr S_Mod_readFreshX_4 h h105 := fr_call f102 fh105 rfl
            have R115 : RM h105 (x_upT T 1 (x_vl b p0)) D := RM_fr fh105 rfl R103
            have g116 : 0 ≤ o109Z ∧ o109Z ≤ 160 := inv_at hI107 o109E o109K.symm rfl
            have g117 : 0 ≤ o110Z ∧ o110Z ≤ 160 := inv_at hI107 o110E o110K.symm rfl
            replace p106 := p106.resolve_left (fun q => by (first | decide +kernel | with_reducible assumption | omega))
            refine V_iload_n 3 d_Mod_readFresh_90 rfl rfl ?_
            exact V_iret rfl d_Mod_readFresh_91 ⟨z4, rfl, ⟨hI107, f108, o109, o109Z, o109E, o109K, o110, o110Z, o110E, o110K, o111, o111Z, o111E, o111K, o112, o112Z, o112E, o112K, o113, o113Z, o113E, o113K, o114, o114Z, o114E, o114K, ⟨(Or.inr (Or.inr (⟨by (first | decide +kernel | with_reducible assumption | omega), by (first | decide +kernel | with_reducible assumption | omega), by rw [z4E]; omega, (if q9 : o113Z = 0 then Or.inr ⟨q9, by (first | decide +kernel | with_reducible assumption | omega), by (first | decide +kernel | with_reducible assumption | omega), by (first | decide +kernel | with_reducible assumption | omega), by (first | decide +kernel | with_reducible assumption | omega), by (first | decide +kernel | with_reducible assumption | omega), by (first | decide +kernel | with_reducible assumption | omega), by (first | decide +kernel | with_reducible assumption | omega), by (first | decide +kernel | with_reducible assumption | omega), by (first | decide +kernel | with_reducible assumption | omega), by (first | decide +kernel | with_reducible assumption | omega), by (first | decide +kernel | with_reducible assumption | omega)⟩ else Or.inl ⟨by (first | decide +kernel | with_reducible assumption | omega), by (first | decide +kernel | with_reducible assumption | omega), by (first | decide +kernel | with_reducible assumption | omega)⟩), R115⟩))), by (first | decide +kernel | with_reducible assumption | omega), by (first | decide +kernel | with_reducible assumption | omega), by (first | decide +kernel | with_reducible assumption | omega), by rw [z4E]; omega, by rw [z4E]; omega⟩⟩⟩
def S_Mod_readFreshX_5 : List (Nat × Option Nat) := [(116, some 16), (116, some 17), (116, some 18), (116, some 19), (116, some 20), (116, some 21), (120, some 1), (116, some 13)]
abbrev q_Mod_readFreshX_5 (h : Hp) (b : Int → Int) (T : Nat → Int → Int) (D : Nat → Int) (p0 : Int) (s : Int32) (sZ : Int) (p : Int32) (pZ : Int) (g : Int32) (gZ : Int) (k : Int32) (kZ : Int) (v : Int32) (vZ : Int) (w : Int32) (wZ : Int) (a : Int32) (aZ : Int) (z : Int32) (zZ : Int) (i : Int32) (iZ : Int) : Option Value → Hp → Prop := pInt (fun r h' => Inv h' ∧ fr S_Mod_readFreshX_5 h h' ∧ ∃ (q : Int32) (qZ : Int), q.toInt = qZ ∧ h'.1 116 16 = q ∧ ∃ (f : Int32) (fZ : Int), f.toInt = fZ ∧ h'.1 116 17 = f ∧ ∃ (m : Int32) (mZ : Int), m.toInt = mZ ∧ h'.1 116 18 = m ∧ ∃ (x : Int32) (xZ : Int), x.toInt = xZ ∧ h'.1 116 19 = x ∧ ∃ (u : Int32) (uZ : Int), u.toInt = uZ ∧ h'.1 116 20 = u ∧ ∃ (y : Int32) (yZ : Int), y.toInt = yZ ∧ h'.1 116 21 = y ∧ ((x_cN b p0 0 15 ≠ 0 ∧ uZ = x_cN b p0 0 15 ∧ yZ = x_fr b p0 ∨ x_cN b p0 0 15 = 0 ∧ x_c4 (T 2 (x_vl b p0)) ≠ 0 ∧ uZ = 4 ∧ yZ = x_fr b p0 ∨ x_cN b p0 0 15 = 0 ∧ x_c4 (T 2 (x_vl b p0)) = 0 ∧ r.toInt = x_vl b p0 ∧ (uZ = 1 ∧ x_kd b (x_en b p0) = 4 ∧ yZ = x_fr b (x_en b p0) ∨ uZ = 0 ∧ fZ = x_fr b (x_en b p0) ∧ mZ = x_kd b (x_en b p0) ∧ mZ ≠ 4 ∧ 0 ≤ mZ ∧ mZ ≤ 3 ∧ qZ = x_en b (x_en b p0) ∧ (mZ ≠ 2 ∨ xZ = x_vl b (x_en b p0) ∧ 0 ≤ xZ ∧ xZ ≤ 99) ∧ (x_en b p0) ≤ fZ ∧ fZ ≤ qZ ∧ qZ ≤ sZ ∧ (mZ = 0 ∨ fZ < qZ)) ∧ RM h' (x_upT T 2 (x_vl b p0)) D) ∧ 0 ≤ qZ ∧ qZ ≤ sZ ∧ 0 ≤ uZ ∧ 0 ≤ r.toInt ∧ r.toInt ≤ 15))
set_option maxRecDepth 100000 in
theorem c_Mod_readFreshX_5 (h : Hp) (b : Int → Int) (T : Nat → Int → Int) (D : Nat → Int) (p0 : Int) (hI : Inv h) (s : Int32) (sZ : Int) (sE : s.toInt = sZ) (sK : h.1 116 15 = s) (p : Int32) (pZ : Int) (pE : p.toInt = pZ) (pK : h.1 116 16 = p) (g : Int32) (gZ : Int) (gE : g.toInt = gZ) (gK : h.1 116 17 = g) (k : Int32) (kZ : Int) (kE : k.toInt = kZ) (kK : h.1 116 18 = k) (v : Int32) (vZ : Int) (vE : v.toInt = vZ) (vK : h.1 116 19 = v) (w : Int32) (wZ : Int) (wE : w.toInt = wZ) (wK : h.1 116 20 = w) (a : Int32) (aZ : Int) (aE : a.toInt = aZ) (aK : h.1 116 21 = a) (z : Int32) (zZ : Int) (zE : z.toInt = zZ) (zK : h.1 120 1 = z) (i : Int32) (iZ : Int) (iE : i.toInt = iZ) (iK : h.1 116 13 = i) (hy0 : TP h 121 sZ b) (hy1 : 0 ≤ pZ ∧ pZ ≤ sZ ∧ wZ = 0) (hy2 : gZ = x_fr b p0 ∧ kZ = x_kd b p0 ∧ kZ ≠ 4 ∧ 0 ≤ kZ ∧ kZ ≤ 3 ∧ pZ = x_en b p0 ∧ (kZ ≠ 2 ∨ vZ = x_vl b p0 ∧ 0 ≤ vZ ∧ vZ ≤ 99) ∧ p0 ≤ gZ ∧ gZ ≤ pZ ∧ pZ ≤ sZ ∧ (kZ = 0 ∨ gZ < pZ)) (hy3 : RM h T D) : Ct y_Mod_readFresh b_Mod_readFresh 4 (some .int) 2 47 [.ref 116, .int 5, .int 15] h (q_Mod_readFreshX_5 h b T D p0 s sZ p pZ g gZ k kZ v vZ w wZ a aZ z zZ i iZ) := by
  refine ct_ow R_Mod [some (.ref 116), some (.int 5), some (.int 15), none] rfl (by decide) rfl (Nat.le_of_ble_eq_true rfl) ?_
  have f0 : fr S_Mod_readFreshX_5 h h := fr_rf
  have g1 : 0 ≤ sZ ∧ sZ ≤ 160 := inv_at hI sE sK.symm rfl
  have g2 : 0 ≤ pZ ∧ pZ ≤ 160 := inv_at hI pE pK.symm rfl
  have g3 : 0 ≤ gZ ∧ gZ ≤ 160 := inv_at hI gE gK.symm rfl
  refine V_aload_n 0 d_Mod_readFresh_0 rfl rfl ?_
  refine V_iconst 0 d_Mod_readFresh_1 (by decide) ?_
  refine V_iload_n 2 d_Mod_readFresh_2 rfl rfl ?_
  refine N_callVI [.int 0, .int 15] [] cv_Mod_148 sk_116 rfl d_Mod_readFresh_3 rfl (Nat.le_of_ble_eq_true rfl) (by decide) (by decide) (c_Mod_lookedX h hI 0 0 tc_0 15 15 tc_15 g gZ gE gK k kZ kE kK v vZ vE vK w wZ wE wK a aZ aE aK) (fun z4 h5 z4Z z4E p6 => ?_)
  obtain ⟨hI7, fh5, o9, o9Z, o9E, o9K, o10, o10Z, o10E, o10K, p6⟩ := p6
  have f8 : fr S_Mod_readFreshX_5 h h5 := fr_call f0 fh5 rfl
  have R11 : RM h5 T D := RM_fr fh5 rfl hy3
  refine V_istore_n 3 [some (.ref 116), some (.int 5), some (.int 15), some (.int z4)] d_Mod_readFresh_6 rfl (by decide) rfl rfl ?_
  replace p6 := lk_all hy2 hy1.2.2 p6
  replace hy2 := lx_s hy2
  have g12 : x_fr b pZ = x_fr b (x_en b p0) := congrArg (x_fr b) (by (first | decide +kernel | with_reducible assumption | omega))
  have g13 : x_kd b pZ = x_kd b (x_en b p0) := congrArg (x_kd b) (by (first | decide +kernel | with_reducible assumption | omega))
  have g14 : x_en b pZ = x_en b (x_en b p0) := congrArg (x_en b) (by (first | decide +kernel | with_reducible assumption | omega))
  have g15 : x_vl b pZ = x_vl b (x_en b p0) := congrArg (x_vl b) (by (first | decide +kernel | with_reducible assumption | omega))
  refine V_aload_n 0 d_Mod_readFresh_7 rfl rfl ?_
  refine N_getK fa_Mod_102 sk_116 rfl d_Mod_readFresh_8 o9K ?_
  refine V_if_ne 39 o9E d_Mod_readFresh_11 (by decide) (fun c16 => ?_) (fun c16 => ?_)
  ·
    replace p6 := And.intro p6.1 (p6.2.resolve_right (fun q => by (first | decide +kernel | with_reducible assumption | omega)))
    refine V_aload_n 0 d_Mod_readFresh_39 rfl rfl ?_
    refine N_getK fa_Mod_102 sk_116 rfl d_Mod_readFresh_40 o9K ?_
    refine V_if_ne 86 o9E d_Mod_readFresh_43 (by decide) (fun c17 => ?_) (fun c17 => ?_)
    ·
      refine V_aload_n 0 d_Mod_readFresh_86 rfl rfl ?_
      refine N_callVV [] [] cv_Mod_152 sk_116 rfl d_Mod_readFresh_87 rfl (Nat.le_of_ble_eq_true rfl) (by decide) (by decide) (c_Mod_nextX h5 b hI7 s sZ sE (kn_call fh5 sK rfl) p pZ pE (kn_call fh5 pK rfl) g gZ gE (kn_call fh5 gK rfl) k kZ kE (kn_call fh5 kK rfl) v vZ vE (kn_call fh5 vK rfl) o9 o9Z o9E o9K o10 o10Z o10E o10K (TP_fr f8 (fun _ => rfl) hy0) (by (first | decide +kernel | with_reducible assumption | omega))) (fun h19 p20 => ?_)
      obtain ⟨hI21, fh19, o23, o23Z, o23E, o23K, o24, o24Z, o24E, o24K, o25, o25Z, o25E, o25K, o26, o26Z, o26E, o26K, o27, o27Z, o27E, o27K, o28, o28Z, o28E, o28K, p20⟩ := p20
      have f22 : fr S_Mod_readFreshX_5 h h19 := fr_call f8 fh19 rfl
      have R29 : RM h19 T D := RM_fr fh19 rfl R11
      have g30 : 0 ≤ o23Z ∧ o23Z ≤ 160 := inv_at hI21 o23E o23K.symm rfl
      have g31 : 0 ≤ o24Z ∧ o24Z ≤ 160 := inv_at hI21 o24E o24K.symm rfl
      replace p20 := p20.resolve_right (fun q => by (first | decide +kernel | with_reducible assumption | omega))
      refine V_iload_n 3 d_Mod_readFresh_90 rfl rfl ?_
      exact V_iret rfl d_Mod_readFresh_91 ⟨z4, rfl, ⟨hI21, f22, o23, o23Z, o23E, o23K, o24, o24Z, o24E, o24K, o25, o25Z, o25E, o25K, o26, o26Z, o26E, o26K, o27, o27Z, o27E, o27K, o28, o28Z, o28E, o28K, ⟨(Or.inl (⟨by (first | decide +kernel | with_reducible assumption | omega), by (first | decide +kernel | with_reducible assumption | omega), by (first | decide +kernel | with_reducible assumption | omega)⟩)), by (first | decide +kernel | with_reducible assumption | omega), by (first | decide +kernel | with_reducible assumption | omega), by (first | decide +kernel | with_reducible assumption | omega), by rw [z4E]; omega, by rw [z4E]; omega⟩⟩⟩
    ·
      exact absurd c17 (by (first | decide +kernel | with_reducible assumption | omega))
  ·
    replace p6 := And.intro p6.1 (p6.2.resolve_left (fun q => by (first | decide +kernel | with_reducible assumption | omega)))
    refine V_aload_n 0 d_Mod_readFresh_14 rfl rfl ?_
    refine V_aload_n 0 d_Mod_readFresh_15 rfl rfl ?_
    refine V_getR fa_Mod_20 sk_116 rfl d_Mod_readFresh_16 ?_
    refine V_iload_n 1 d_Mod_readFresh_19 rfl rfl ?_
    refine V_iconst 4 d_Mod_readFresh_20 (by decide) ?_
    refine V_isubw d_Mod_readFresh_21 (fun z32 z32e => ?_)
    obtain rfl : z32 = 1 := z32e.trans (by decide)
    refine N_ialdK sk_120 tc_1 (by (first | decide +kernel | with_reducible assumption | omega)) d_Mod_readFresh_22 (kn_call fh5 zK rfl) ?_
    refine V_iload_n 3 d_Mod_readFresh_23 rfl rfl ?_
    refine N_ishr d_Mod_readFresh_24 (fun z34 z34Z z34E z34e => ?_)
    refine V_iconst 1 d_Mod_readFresh_25 (by decide) ?_
    refine N_iand d_Mod_readFresh_26 (fun z35 z35Z z35E z35e => ?_)
    have g36 : z35Z = T 2 z4Z := x_bt_of (RM_had R11 (by decide) (by decide) (kn_call fh5 zK rfl)) (by (first | decide +kernel | with_reducible assumption | omega)) (by (first | decide +kernel | with_reducible assumption | omega)) z4E z35E (by assumption) (by assumption)
    have g37 : T 2 z4Z = T 2 (x_vl b p0) := congrArg (T 2) (by (first | decide +kernel | with_reducible assumption | omega))
    have g38 := x_c4_s (T 2 (x_vl b p0))
    refine V_if_ne 34 z35E d_Mod_readFresh_27 (by decide) (fun c39 => ?_) (fun c39 => ?_)
    ·
      replace g38 := g38.resolve_left (fun q => by (first | decide +kernel | with_reducible assumption | omega))
      refine V_iconst 0 d_Mod_readFresh_34 (by decide) ?_
      refine V_iconst 4 d_Mod_readFresh_35 (by decide) ?_
      refine N_callVV [.int 0, .int 4] [] cv_Mod_144 sk_116 rfl d_Mod_readFresh_36 rfl (Nat.le_of_ble_eq_true rfl) (by decide) (by decide) (c_Mod_needsX h5 hI7 0 0 tc_0 4 4 tc_4 g gZ gE (kn_call fh5 gK rfl) o9 o9Z o9E o9K o10 o10Z o10E o10K) (fun h41 p42 => ?_)
      obtain ⟨hI43, fh41, o45, o45Z, o45E, o45K, o46, o46Z, o46E, o46K, p42⟩ := p42
      have f44 : fr S_Mod_readFreshX_5 h h41 := fr_call f8 fh41 rfl
      have R47 : RM h41 T D := RM_fr fh41 rfl R11
      replace p42 := (p42.resolve_left (by (first | decide +kernel | with_reducible assumption | omega))).2.2
      refine V_aload_n 0 d_Mod_readFresh_39 rfl rfl ?_
      refine N_getK fa_Mod_102 sk_116 rfl d_Mod_readFresh_40 o45K ?_
      refine V_if_ne 86 o45E d_Mod_readFresh_43 (by decide) (fun c48 => ?_) (fun c48 => ?_)
      ·
        refine V_aload_n 0 d_Mod_readFresh_86 rfl rfl ?_
        refine N_callVV [] [] cv_Mod_152 sk_116 rfl d_Mod_readFresh_87 rfl (Nat.le_of_ble_eq_true rfl) (by decide) (by decide) (c_Mod_nextX h41 b hI43 s sZ sE (kn_call fh41 (kn_call fh5 sK rfl) rfl) p pZ pE (kn_call fh41 (kn_call fh5 pK rfl) rfl) g gZ gE (kn_call fh41 (kn_call fh5 gK rfl) rfl) k kZ kE (kn_call fh41 (kn_call fh5 kK rfl) rfl) v vZ vE (kn_call fh41 (kn_call fh5 vK rfl) rfl) o45 o45Z o45E o45K o46 o46Z o46E o46K (TP_fr f44 (fun _ => rfl) hy0) (by (first | decide +kernel | with_reducible assumption | omega))) (fun h50 p51 => ?_)
        obtain ⟨hI52, fh50, o54, o54Z, o54E, o54K, o55, o55Z, o55E, o55K, o56, o56Z, o56E, o56K, o57, o57Z, o57E, o57K, o58, o58Z, o58E, o58K, o59, o59Z, o59E, o59K, p51⟩ := p51
        have f53 : fr S_Mod_readFreshX_5 h h50 := fr_call f44 fh50 rfl
        have R60 : RM h50 T D := RM_fr fh50 rfl R47
        have g61 : 0 ≤ o54Z ∧ o54Z ≤ 160 := inv_at hI52 o54E o54K.symm rfl
        have g62 : 0 ≤ o55Z ∧ o55Z ≤ 160 := inv_at hI52 o55E o55K.symm rfl
        replace p51 := p51.resolve_right (fun q => by (first | decide +kernel | with_reducible assumption | omega))
        refine V_iload_n 3 d_Mod_readFresh_90 rfl rfl ?_
        exact V_iret rfl d_Mod_readFresh_91 ⟨z4, rfl, ⟨hI52, f53, o54, o54Z, o54E, o54K, o55, o55Z, o55E, o55K, o56, o56Z, o56E, o56K, o57, o57Z, o57E, o57K, o58, o58Z, o58E, o58K, o59, o59Z, o59E, o59K, ⟨(Or.inr (Or.inl (⟨by (first | decide +kernel | with_reducible assumption | omega), by (first | decide +kernel | with_reducible assumption | omega), by (first | decide +kernel | with_reducible assumption | omega), by (first | decide +kernel | with_reducible assumption | omega)⟩))), by (first | decide +kernel | with_reducible assumption | omega), by (first | decide +kernel | with_reducible assumption | omega), by (first | decide +kernel | with_reducible assumption | omega), by rw [z4E]; omega, by rw [z4E]; omega⟩⟩⟩
      ·
        exact absurd c48 (by (first | decide +kernel | with_reducible assumption | omega))
    ·
      replace g38 := g38.resolve_right (fun q => by (first | decide +kernel | with_reducible assumption | omega))
      refine V_iconst 1 d_Mod_readFresh_30 (by decide) ?_
      refine V_goto 35 d_Mod_readFresh_31 (by decide) ?_
      refine V_iconst 4 d_Mod_readFresh_35 (by decide) ?_
      refine N_callVV [.int 1, .int 4] [] cv_Mod_144 sk_116 rfl d_Mod_readFresh_36 rfl (Nat.le_of_ble_eq_true rfl) (by decide) (by decide) (c_Mod_needsX h5 hI7 1 1 tc_1 4 4 tc_4 g gZ gE (kn_call fh5 gK rfl) o9 o9Z o9E o9K o10 o10Z o10E o10K) (fun h64 p65 => ?_)
      obtain ⟨hI66, fh64, o68, o68Z, o68E, o68K, o69, o69Z, o69E, o69K, p65⟩ := p65
      have f67 : fr S_Mod_readFreshX_5 h h64 := fr_call f8 fh64 rfl
      have R70 : RM h64 T D := RM_fr fh64 rfl R11
      replace p65 := (p65.resolve_right (by (first | decide +kernel | with_reducible assumption | omega))).2
      refine V_aload_n 0 d_Mod_readFresh_39 rfl rfl ?_
      refine N_getK fa_Mod_102 sk_116 rfl d_Mod_readFresh_40 o68K ?_
      refine V_if_ne 86 o68E d_Mod_readFresh_43 (by decide) (fun c71 => ?_) (fun c71 => ?_)
      ·
        exact absurd c71 (by (first | decide +kernel | with_reducible assumption | omega))
      ·
        refine V_aload_n 0 d_Mod_readFresh_46 rfl rfl ?_
        refine V_getR fa_Mod_20 sk_116 rfl d_Mod_readFresh_47 ?_
        refine V_iload_n 1 d_Mod_readFresh_50 rfl rfl ?_
        refine V_iconst 4 d_Mod_readFresh_51 (by decide) ?_
        refine V_isubw d_Mod_readFresh_52 (fun z72 z72e => ?_)
        obtain rfl : z72 = 1 := z72e.trans (by decide)
        refine V_dup2 d_Mod_readFresh_53 rfl rfl ?_
        refine N_ialdK sk_120 tc_1 (by (first | decide +kernel | with_reducible assumption | omega)) d_Mod_readFresh_54 (kn_call fh64 (kn_call fh5 zK rfl) rfl) ?_
        refine V_iconst 1 d_Mod_readFresh_55 (by decide) ?_
        refine V_iload_n 3 d_Mod_readFresh_56 rfl rfl ?_
        refine N_ishl d_Mod_readFresh_57 (fun z74 z74Z z74E z74e => ?_)
        refine N_ior d_Mod_readFresh_58 (fun z75 z75Z z75E z75e => ?_)
        refine N_iast sk_120 tc_1 (by (first | decide +kernel | with_reducible assumption | omega)) d_Mod_readFresh_59 (fun h76 eh76 => ?_)
        have hI77 : Inv h76 := inv_full hI66 eh76 rfl
        have f78 : fr S_Mod_readFreshX_5 h h76 := fr_put f67 eh76 rfl
        refine V_aload_n 0 d_Mod_readFresh_60 rfl rfl ?_
        refine V_iload_n 1 d_Mod_readFresh_61 rfl rfl ?_
        refine V_bipush 8 d_Mod_readFresh_62 (by decide) ?_
        refine V_icmp_ge 79 tc_5 tc_8 d_Mod_readFresh_64 (by decide) (fun c80 => ?_) (fun c80 => ?_)
        ·
          exact absurd c80 (by decide)
        ·
          refine V_iload_n 3 d_Mod_readFresh_67 rfl rfl ?_
          refine V_aload_n 0 d_Mod_readFresh_68 rfl rfl ?_
          refine N_getK fa_Mod_78 sk_116 rfl d_Mod_readFresh_69 (kn_ne eh76 (kn_call fh64 (kn_call fh5 iK rfl) rfl) (by decide)) ?_
          refine V_icmp_le 79 z4E iE d_Mod_readFresh_72 (by decide) (fun c81 => ?_) (fun c81 => ?_)
          ·
            refine V_aload_n 0 d_Mod_readFresh_79 rfl rfl ?_
            refine N_getK fa_Mod_78 sk_116 rfl d_Mod_readFresh_80 (kn_ne eh76 (kn_call fh64 (kn_call fh5 iK rfl) rfl) (by decide)) ?_
            refine N_putI fp_Mod_78 sk_116 rfl d_Mod_readFresh_83 (fun h82 eh82 => ?_)
            have hI83 : Inv h82 := inv_full hI77 eh82 rfl
            have f84 : fr S_Mod_readFreshX_5 h h82 := fr_put f78 eh82 rfl
            have R85 : RM h82 (x_upT T 2 (x_vl b p0)) D := RM_fresh (l := 2) R70 ⟨by decide, by decide⟩ eh76 (kn_call fh64 (kn_call fh5 zK rfl) rfl) (by (first | decide +kernel | with_reducible assumption | omega)) (z4E.trans (by (first | decide +kernel | with_reducible assumption | omega))) (by assumption) (by assumption) rfl eh82 iE ((congrArg Int32.toInt (kn_call fh64 (kn_call fh5 iK rfl) rfl)).trans iE) (Or.inl ⟨by decide, by (first | decide +kernel | with_reducible assumption | omega)⟩)
            refine V_aload_n 0 d_Mod_readFresh_86 rfl rfl ?_
            refine N_callVV [] [] cv_Mod_152 sk_116 rfl d_Mod_readFresh_87 rfl (Nat.le_of_ble_eq_true rfl) (by decide) (by decide) (c_Mod_nextX h82 b hI83 s sZ sE (kn_nei eh82 (kn_ne eh76 (kn_call fh64 (kn_call fh5 sK rfl) rfl) (by decide)) (by decide)) p pZ pE (kn_nei eh82 (kn_ne eh76 (kn_call fh64 (kn_call fh5 pK rfl) rfl) (by decide)) (by decide)) g gZ gE (kn_nei eh82 (kn_ne eh76 (kn_call fh64 (kn_call fh5 gK rfl) rfl) (by decide)) (by decide)) k kZ kE (kn_nei eh82 (kn_ne eh76 (kn_call fh64 (kn_call fh5 kK rfl) rfl) (by decide)) (by decide)) v vZ vE (kn_nei eh82 (kn_ne eh76 (kn_call fh64 (kn_call fh5 vK rfl) rfl) (by decide)) (by decide)) o68 o68Z o68E (kn_nei eh82 (kn_ne eh76 o68K (by decide)) (by decide)) o69 o69Z o69E (kn_nei eh82 (kn_ne eh76 o69K (by decide)) (by decide)) (TP_fr f84 (fun _ => rfl) hy0) (by (first | decide +kernel | with_reducible assumption | omega))) (fun h87 p88 => ?_)
            obtain ⟨hI89, fh87, o91, o91Z, o91E, o91K, o92, o92Z, o92E, o92K, o93, o93Z, o93E, o93K, o94, o94Z, o94E, o94K, o95, o95Z, o95E, o95K, o96, o96Z, o96E, o96K, p88⟩ := p88
            have f90 : fr S_Mod_readFreshX_5 h h87 := fr_call f84 fh87 rfl
            have R97 : RM h87 (x_upT T 2 (x_vl b p0)) D := RM_fr fh87 rfl R85
            have g98 : 0 ≤ o91Z ∧ o91Z ≤ 160 := inv_at hI89 o91E o91K.symm rfl
            have g99 : 0 ≤ o92Z ∧ o92Z ≤ 160 := inv_at hI89 o92E o92K.symm rfl
            replace p88 := p88.resolve_left (fun q => by (first | decide +kernel | with_reducible assumption | omega))
            refine V_iload_n 3 d_Mod_readFresh_90 rfl rfl ?_
            exact V_iret rfl d_Mod_readFresh_91 ⟨z4, rfl, ⟨hI89, f90, o91, o91Z, o91E, o91K, o92, o92Z, o92E, o92K, o93, o93Z, o93E, o93K, o94, o94Z, o94E, o94K, o95, o95Z, o95E, o95K, o96, o96Z, o96E, o96K, ⟨(Or.inr (Or.inr (⟨by (first | decide +kernel | with_reducible assumption | omega), by (first | decide +kernel | with_reducible assumption | omega), by rw [z4E]; omega, (if q9 : o95Z = 0 then Or.inr ⟨q9, by (first | decide +kernel | with_reducible assumption | omega), by (first | decide +kernel | with_reducible assumption | omega), by (first | decide +kernel | with_reducible assumption | omega), by (first | decide +kernel | with_reducible assumption | omega), by (first | decide +kernel | with_reducible assumption | omega), by (first | decide +kernel | with_reducible assumption | omega), by (first | decide +kernel | with_reducible assumption | omega), by (first | decide +kernel | with_reducible assumption | omega), by (first | decide +kernel | with_reducible assumption | omega), by (first | decide +kernel | with_reducible assumption | omega), by (first | decide +kernel | with_reducible assumption | omega)⟩ else Or.inl ⟨by (first | decide +kernel | with_reducible assumption | omega), by (first | decide +kernel | with_reducible assumption | omega), by (first | decide +kernel | with_reducible assumption | omega)⟩), R97⟩))), by (first | decide +kernel | with_reducible assumption | omega), by (first | decide +kernel | with_reducible assumption | omega), by (first | decide +kernel | with_reducible assumption | omega), by rw [z4E]; omega, by rw [z4E]; omega⟩⟩⟩
          ·
            refine V_iload_n 3 d_Mod_readFresh_75 rfl rfl ?_
            refine V_goto 83 d_Mod_readFresh_76 (by decide) ?_
            refine N_putI fp_Mod_78 sk_116 rfl d_Mod_readFresh_83 (fun h100 eh100 => ?_)
            have hI101 : Inv h100 := inv_full hI77 eh100 rfl
            have f102 : fr S_Mod_readFreshX_5 h h100 := fr_put f78 eh100 rfl
            have R103 : RM h100 (x_upT T 2 (x_vl b p0)) D := RM_fresh (l := 2) R70 ⟨by decide, by decide⟩ eh76 (kn_call fh64 (kn_call fh5 zK rfl) rfl) (by (first | decide +kernel | with_reducible assumption | omega)) (z4E.trans (by (first | decide +kernel | with_reducible assumption | omega))) (by assumption) (by assumption) rfl eh100 z4E ((congrArg Int32.toInt (kn_call fh64 (kn_call fh5 iK rfl) rfl)).trans iE) (Or.inl ⟨by decide, by (first | decide +kernel | with_reducible assumption | omega)⟩)
            refine V_aload_n 0 d_Mod_readFresh_86 rfl rfl ?_
            refine N_callVV [] [] cv_Mod_152 sk_116 rfl d_Mod_readFresh_87 rfl (Nat.le_of_ble_eq_true rfl) (by decide) (by decide) (c_Mod_nextX h100 b hI101 s sZ sE (kn_nei eh100 (kn_ne eh76 (kn_call fh64 (kn_call fh5 sK rfl) rfl) (by decide)) (by decide)) p pZ pE (kn_nei eh100 (kn_ne eh76 (kn_call fh64 (kn_call fh5 pK rfl) rfl) (by decide)) (by decide)) g gZ gE (kn_nei eh100 (kn_ne eh76 (kn_call fh64 (kn_call fh5 gK rfl) rfl) (by decide)) (by decide)) k kZ kE (kn_nei eh100 (kn_ne eh76 (kn_call fh64 (kn_call fh5 kK rfl) rfl) (by decide)) (by decide)) v vZ vE (kn_nei eh100 (kn_ne eh76 (kn_call fh64 (kn_call fh5 vK rfl) rfl) (by decide)) (by decide)) o68 o68Z o68E (kn_nei eh100 (kn_ne eh76 o68K (by decide)) (by decide)) o69 o69Z o69E (kn_nei eh100 (kn_ne eh76 o69K (by decide)) (by decide)) (TP_fr f102 (fun _ => rfl) hy0) (by (first | decide +kernel | with_reducible assumption | omega))) (fun h105 p106 => ?_)
            obtain ⟨hI107, fh105, o109, o109Z, o109E, o109K, o110, o110Z, o110E, o110K, o111, o111Z, o111E, o111K, o112, o112Z, o112E, o112K, o113, o113Z, o113E, o113K, o114, o114Z, o114E, o114K, p106⟩ := p106
            have f108 : fr S_Mod_readFreshX_5 h h105 := fr_call f102 fh105 rfl
            have R115 : RM h105 (x_upT T 2 (x_vl b p0)) D := RM_fr fh105 rfl R103
            have g116 : 0 ≤ o109Z ∧ o109Z ≤ 160 := inv_at hI107 o109E o109K.symm rfl
            have g117 : 0 ≤ o110Z ∧ o110Z ≤ 160 := inv_at hI107 o110E o110K.symm rfl
            replace p106 := p106.resolve_left (fun q => by (first | decide +kernel | with_reducible assumption | omega))
            refine V_iload_n 3 d_Mod_readFresh_90 rfl rfl ?_
            exact V_iret rfl d_Mod_readFresh_91 ⟨z4, rfl, ⟨hI107, f108, o109, o109Z, o109E, o109K, o110, o110Z, o110E, o110K, o111, o111Z, o111E, o111K, o112, o112Z, o112E, o112K, o113, o113Z, o113E, o113K, o114, o114Z, o114E, o114K, ⟨(Or.inr (Or.inr (⟨by (first | decide +kernel | with_reducible assumption | omega), by (first | decide +kernel | with_reducible assumption | omega), by rw [z4E]; omega, (if q9 : o113Z = 0 then Or.inr ⟨q9, by (first | decide +kernel | with_reducible assumption | omega), by (first | decide +kernel | with_reducible assumption | omega), by (first | decide +kernel | with_reducible assumption | omega), by (first | decide +kernel | with_reducible assumption | omega), by (first | decide +kernel | with_reducible assumption | omega), by (first | decide +kernel | with_reducible assumption | omega), by (first | decide +kernel | with_reducible assumption | omega), by (first | decide +kernel | with_reducible assumption | omega), by (first | decide +kernel | with_reducible assumption | omega), by (first | decide +kernel | with_reducible assumption | omega), by (first | decide +kernel | with_reducible assumption | omega)⟩ else Or.inl ⟨by (first | decide +kernel | with_reducible assumption | omega), by (first | decide +kernel | with_reducible assumption | omega), by (first | decide +kernel | with_reducible assumption | omega)⟩), R115⟩))), by (first | decide +kernel | with_reducible assumption | omega), by (first | decide +kernel | with_reducible assumption | omega), by (first | decide +kernel | with_reducible assumption | omega), by rw [z4E]; omega, by rw [z4E]; omega⟩⟩⟩
def S_Mod_readFreshX_6 : List (Nat × Option Nat) := [(116, some 16), (116, some 17), (116, some 18), (116, some 19), (116, some 20), (116, some 21), (120, some 2), (116, some 13)]
abbrev q_Mod_readFreshX_6 (h : Hp) (b : Int → Int) (T : Nat → Int → Int) (D : Nat → Int) (p0 : Int) (s : Int32) (sZ : Int) (p : Int32) (pZ : Int) (g : Int32) (gZ : Int) (k : Int32) (kZ : Int) (v : Int32) (vZ : Int) (w : Int32) (wZ : Int) (a : Int32) (aZ : Int) (z : Int32) (zZ : Int) (i : Int32) (iZ : Int) : Option Value → Hp → Prop := pInt (fun r h' => Inv h' ∧ fr S_Mod_readFreshX_6 h h' ∧ ∃ (q : Int32) (qZ : Int), q.toInt = qZ ∧ h'.1 116 16 = q ∧ ∃ (f : Int32) (fZ : Int), f.toInt = fZ ∧ h'.1 116 17 = f ∧ ∃ (m : Int32) (mZ : Int), m.toInt = mZ ∧ h'.1 116 18 = m ∧ ∃ (x : Int32) (xZ : Int), x.toInt = xZ ∧ h'.1 116 19 = x ∧ ∃ (u : Int32) (uZ : Int), u.toInt = uZ ∧ h'.1 116 20 = u ∧ ∃ (y : Int32) (yZ : Int), y.toInt = yZ ∧ h'.1 116 21 = y ∧ ((x_cN b p0 0 15 ≠ 0 ∧ uZ = x_cN b p0 0 15 ∧ yZ = x_fr b p0 ∨ x_cN b p0 0 15 = 0 ∧ x_c4 (T 3 (x_vl b p0)) ≠ 0 ∧ uZ = 4 ∧ yZ = x_fr b p0 ∨ x_cN b p0 0 15 = 0 ∧ x_c4 (T 3 (x_vl b p0)) = 0 ∧ r.toInt = x_vl b p0 ∧ (uZ = 1 ∧ x_kd b (x_en b p0) = 4 ∧ yZ = x_fr b (x_en b p0) ∨ uZ = 0 ∧ fZ = x_fr b (x_en b p0) ∧ mZ = x_kd b (x_en b p0) ∧ mZ ≠ 4 ∧ 0 ≤ mZ ∧ mZ ≤ 3 ∧ qZ = x_en b (x_en b p0) ∧ (mZ ≠ 2 ∨ xZ = x_vl b (x_en b p0) ∧ 0 ≤ xZ ∧ xZ ≤ 99) ∧ (x_en b p0) ≤ fZ ∧ fZ ≤ qZ ∧ qZ ≤ sZ ∧ (mZ = 0 ∨ fZ < qZ)) ∧ RM h' (x_upT T 3 (x_vl b p0)) D) ∧ 0 ≤ qZ ∧ qZ ≤ sZ ∧ 0 ≤ uZ ∧ 0 ≤ r.toInt ∧ r.toInt ≤ 15))
set_option maxRecDepth 100000 in
theorem c_Mod_readFreshX_6 (h : Hp) (b : Int → Int) (T : Nat → Int → Int) (D : Nat → Int) (p0 : Int) (hI : Inv h) (s : Int32) (sZ : Int) (sE : s.toInt = sZ) (sK : h.1 116 15 = s) (p : Int32) (pZ : Int) (pE : p.toInt = pZ) (pK : h.1 116 16 = p) (g : Int32) (gZ : Int) (gE : g.toInt = gZ) (gK : h.1 116 17 = g) (k : Int32) (kZ : Int) (kE : k.toInt = kZ) (kK : h.1 116 18 = k) (v : Int32) (vZ : Int) (vE : v.toInt = vZ) (vK : h.1 116 19 = v) (w : Int32) (wZ : Int) (wE : w.toInt = wZ) (wK : h.1 116 20 = w) (a : Int32) (aZ : Int) (aE : a.toInt = aZ) (aK : h.1 116 21 = a) (z : Int32) (zZ : Int) (zE : z.toInt = zZ) (zK : h.1 120 2 = z) (i : Int32) (iZ : Int) (iE : i.toInt = iZ) (iK : h.1 116 13 = i) (hy0 : TP h 121 sZ b) (hy1 : 0 ≤ pZ ∧ pZ ≤ sZ ∧ wZ = 0) (hy2 : gZ = x_fr b p0 ∧ kZ = x_kd b p0 ∧ kZ ≠ 4 ∧ 0 ≤ kZ ∧ kZ ≤ 3 ∧ pZ = x_en b p0 ∧ (kZ ≠ 2 ∨ vZ = x_vl b p0 ∧ 0 ≤ vZ ∧ vZ ≤ 99) ∧ p0 ≤ gZ ∧ gZ ≤ pZ ∧ pZ ≤ sZ ∧ (kZ = 0 ∨ gZ < pZ)) (hy3 : RM h T D) : Ct y_Mod_readFresh b_Mod_readFresh 4 (some .int) 2 47 [.ref 116, .int 6, .int 15] h (q_Mod_readFreshX_6 h b T D p0 s sZ p pZ g gZ k kZ v vZ w wZ a aZ z zZ i iZ) := by
  refine ct_ow R_Mod [some (.ref 116), some (.int 6), some (.int 15), none] rfl (by decide) rfl (Nat.le_of_ble_eq_true rfl) ?_
  have f0 : fr S_Mod_readFreshX_6 h h := fr_rf
  have g1 : 0 ≤ sZ ∧ sZ ≤ 160 := inv_at hI sE sK.symm rfl
  have g2 : 0 ≤ pZ ∧ pZ ≤ 160 := inv_at hI pE pK.symm rfl
  have g3 : 0 ≤ gZ ∧ gZ ≤ 160 := inv_at hI gE gK.symm rfl
  refine V_aload_n 0 d_Mod_readFresh_0 rfl rfl ?_
  refine V_iconst 0 d_Mod_readFresh_1 (by decide) ?_
  refine V_iload_n 2 d_Mod_readFresh_2 rfl rfl ?_
  refine N_callVI [.int 0, .int 15] [] cv_Mod_148 sk_116 rfl d_Mod_readFresh_3 rfl (Nat.le_of_ble_eq_true rfl) (by decide) (by decide) (c_Mod_lookedX h hI 0 0 tc_0 15 15 tc_15 g gZ gE gK k kZ kE kK v vZ vE vK w wZ wE wK a aZ aE aK) (fun z4 h5 z4Z z4E p6 => ?_)
  obtain ⟨hI7, fh5, o9, o9Z, o9E, o9K, o10, o10Z, o10E, o10K, p6⟩ := p6
  have f8 : fr S_Mod_readFreshX_6 h h5 := fr_call f0 fh5 rfl
  have R11 : RM h5 T D := RM_fr fh5 rfl hy3
  refine V_istore_n 3 [some (.ref 116), some (.int 6), some (.int 15), some (.int z4)] d_Mod_readFresh_6 rfl (by decide) rfl rfl ?_
  replace p6 := lk_all hy2 hy1.2.2 p6
  replace hy2 := lx_s hy2
  have g12 : x_fr b pZ = x_fr b (x_en b p0) := congrArg (x_fr b) (by (first | decide +kernel | with_reducible assumption | omega))
  have g13 : x_kd b pZ = x_kd b (x_en b p0) := congrArg (x_kd b) (by (first | decide +kernel | with_reducible assumption | omega))
  have g14 : x_en b pZ = x_en b (x_en b p0) := congrArg (x_en b) (by (first | decide +kernel | with_reducible assumption | omega))
  have g15 : x_vl b pZ = x_vl b (x_en b p0) := congrArg (x_vl b) (by (first | decide +kernel | with_reducible assumption | omega))
  refine V_aload_n 0 d_Mod_readFresh_7 rfl rfl ?_
  refine N_getK fa_Mod_102 sk_116 rfl d_Mod_readFresh_8 o9K ?_
  refine V_if_ne 39 o9E d_Mod_readFresh_11 (by decide) (fun c16 => ?_) (fun c16 => ?_)
  ·
    replace p6 := And.intro p6.1 (p6.2.resolve_right (fun q => by (first | decide +kernel | with_reducible assumption | omega)))
    refine V_aload_n 0 d_Mod_readFresh_39 rfl rfl ?_
    refine N_getK fa_Mod_102 sk_116 rfl d_Mod_readFresh_40 o9K ?_
    refine V_if_ne 86 o9E d_Mod_readFresh_43 (by decide) (fun c17 => ?_) (fun c17 => ?_)
    ·
      refine V_aload_n 0 d_Mod_readFresh_86 rfl rfl ?_
      refine N_callVV [] [] cv_Mod_152 sk_116 rfl d_Mod_readFresh_87 rfl (Nat.le_of_ble_eq_true rfl) (by decide) (by decide) (c_Mod_nextX h5 b hI7 s sZ sE (kn_call fh5 sK rfl) p pZ pE (kn_call fh5 pK rfl) g gZ gE (kn_call fh5 gK rfl) k kZ kE (kn_call fh5 kK rfl) v vZ vE (kn_call fh5 vK rfl) o9 o9Z o9E o9K o10 o10Z o10E o10K (TP_fr f8 (fun _ => rfl) hy0) (by (first | decide +kernel | with_reducible assumption | omega))) (fun h19 p20 => ?_)
      obtain ⟨hI21, fh19, o23, o23Z, o23E, o23K, o24, o24Z, o24E, o24K, o25, o25Z, o25E, o25K, o26, o26Z, o26E, o26K, o27, o27Z, o27E, o27K, o28, o28Z, o28E, o28K, p20⟩ := p20
      have f22 : fr S_Mod_readFreshX_6 h h19 := fr_call f8 fh19 rfl
      have R29 : RM h19 T D := RM_fr fh19 rfl R11
      have g30 : 0 ≤ o23Z ∧ o23Z ≤ 160 := inv_at hI21 o23E o23K.symm rfl
      have g31 : 0 ≤ o24Z ∧ o24Z ≤ 160 := inv_at hI21 o24E o24K.symm rfl
      replace p20 := p20.resolve_right (fun q => by (first | decide +kernel | with_reducible assumption | omega))
      refine V_iload_n 3 d_Mod_readFresh_90 rfl rfl ?_
      exact V_iret rfl d_Mod_readFresh_91 ⟨z4, rfl, ⟨hI21, f22, o23, o23Z, o23E, o23K, o24, o24Z, o24E, o24K, o25, o25Z, o25E, o25K, o26, o26Z, o26E, o26K, o27, o27Z, o27E, o27K, o28, o28Z, o28E, o28K, ⟨(Or.inl (⟨by (first | decide +kernel | with_reducible assumption | omega), by (first | decide +kernel | with_reducible assumption | omega), by (first | decide +kernel | with_reducible assumption | omega)⟩)), by (first | decide +kernel | with_reducible assumption | omega), by (first | decide +kernel | with_reducible assumption | omega), by (first | decide +kernel | with_reducible assumption | omega), by rw [z4E]; omega, by rw [z4E]; omega⟩⟩⟩
    ·
      exact absurd c17 (by (first | decide +kernel | with_reducible assumption | omega))
  ·
    replace p6 := And.intro p6.1 (p6.2.resolve_left (fun q => by (first | decide +kernel | with_reducible assumption | omega)))
    refine V_aload_n 0 d_Mod_readFresh_14 rfl rfl ?_
    refine V_aload_n 0 d_Mod_readFresh_15 rfl rfl ?_
    refine V_getR fa_Mod_20 sk_116 rfl d_Mod_readFresh_16 ?_
    refine V_iload_n 1 d_Mod_readFresh_19 rfl rfl ?_
    refine V_iconst 4 d_Mod_readFresh_20 (by decide) ?_
    refine V_isubw d_Mod_readFresh_21 (fun z32 z32e => ?_)
    obtain rfl : z32 = 2 := z32e.trans (by decide)
    refine N_ialdK sk_120 tc_2 (by (first | decide +kernel | with_reducible assumption | omega)) d_Mod_readFresh_22 (kn_call fh5 zK rfl) ?_
    refine V_iload_n 3 d_Mod_readFresh_23 rfl rfl ?_
    refine N_ishr d_Mod_readFresh_24 (fun z34 z34Z z34E z34e => ?_)
    refine V_iconst 1 d_Mod_readFresh_25 (by decide) ?_
    refine N_iand d_Mod_readFresh_26 (fun z35 z35Z z35E z35e => ?_)
    have g36 : z35Z = T 3 z4Z := x_bt_of (RM_had R11 (by decide) (by decide) (kn_call fh5 zK rfl)) (by (first | decide +kernel | with_reducible assumption | omega)) (by (first | decide +kernel | with_reducible assumption | omega)) z4E z35E (by assumption) (by assumption)
    have g37 : T 3 z4Z = T 3 (x_vl b p0) := congrArg (T 3) (by (first | decide +kernel | with_reducible assumption | omega))
    have g38 := x_c4_s (T 3 (x_vl b p0))
    refine V_if_ne 34 z35E d_Mod_readFresh_27 (by decide) (fun c39 => ?_) (fun c39 => ?_)
    ·
      replace g38 := g38.resolve_left (fun q => by (first | decide +kernel | with_reducible assumption | omega))
      refine V_iconst 0 d_Mod_readFresh_34 (by decide) ?_
      refine V_iconst 4 d_Mod_readFresh_35 (by decide) ?_
      refine N_callVV [.int 0, .int 4] [] cv_Mod_144 sk_116 rfl d_Mod_readFresh_36 rfl (Nat.le_of_ble_eq_true rfl) (by decide) (by decide) (c_Mod_needsX h5 hI7 0 0 tc_0 4 4 tc_4 g gZ gE (kn_call fh5 gK rfl) o9 o9Z o9E o9K o10 o10Z o10E o10K) (fun h41 p42 => ?_)
      obtain ⟨hI43, fh41, o45, o45Z, o45E, o45K, o46, o46Z, o46E, o46K, p42⟩ := p42
      have f44 : fr S_Mod_readFreshX_6 h h41 := fr_call f8 fh41 rfl
      have R47 : RM h41 T D := RM_fr fh41 rfl R11
      replace p42 := (p42.resolve_left (by (first | decide +kernel | with_reducible assumption | omega))).2.2
      refine V_aload_n 0 d_Mod_readFresh_39 rfl rfl ?_
      refine N_getK fa_Mod_102 sk_116 rfl d_Mod_readFresh_40 o45K ?_
      refine V_if_ne 86 o45E d_Mod_readFresh_43 (by decide) (fun c48 => ?_) (fun c48 => ?_)
      ·
        refine V_aload_n 0 d_Mod_readFresh_86 rfl rfl ?_
        refine N_callVV [] [] cv_Mod_152 sk_116 rfl d_Mod_readFresh_87 rfl (Nat.le_of_ble_eq_true rfl) (by decide) (by decide) (c_Mod_nextX h41 b hI43 s sZ sE (kn_call fh41 (kn_call fh5 sK rfl) rfl) p pZ pE (kn_call fh41 (kn_call fh5 pK rfl) rfl) g gZ gE (kn_call fh41 (kn_call fh5 gK rfl) rfl) k kZ kE (kn_call fh41 (kn_call fh5 kK rfl) rfl) v vZ vE (kn_call fh41 (kn_call fh5 vK rfl) rfl) o45 o45Z o45E o45K o46 o46Z o46E o46K (TP_fr f44 (fun _ => rfl) hy0) (by (first | decide +kernel | with_reducible assumption | omega))) (fun h50 p51 => ?_)
        obtain ⟨hI52, fh50, o54, o54Z, o54E, o54K, o55, o55Z, o55E, o55K, o56, o56Z, o56E, o56K, o57, o57Z, o57E, o57K, o58, o58Z, o58E, o58K, o59, o59Z, o59E, o59K, p51⟩ := p51
        have f53 : fr S_Mod_readFreshX_6 h h50 := fr_call f44 fh50 rfl
        have R60 : RM h50 T D := RM_fr fh50 rfl R47
        have g61 : 0 ≤ o54Z ∧ o54Z ≤ 160 := inv_at hI52 o54E o54K.symm rfl
        have g62 : 0 ≤ o55Z ∧ o55Z ≤ 160 := inv_at hI52 o55E o55K.symm rfl
        replace p51 := p51.resolve_right (fun q => by (first | decide +kernel | with_reducible assumption | omega))
        refine V_iload_n 3 d_Mod_readFresh_90 rfl rfl ?_
        exact V_iret rfl d_Mod_readFresh_91 ⟨z4, rfl, ⟨hI52, f53, o54, o54Z, o54E, o54K, o55, o55Z, o55E, o55K, o56, o56Z, o56E, o56K, o57, o57Z, o57E, o57K, o58, o58Z, o58E, o58K, o59, o59Z, o59E, o59K, ⟨(Or.inr (Or.inl (⟨by (first | decide +kernel | with_reducible assumption | omega), by (first | decide +kernel | with_reducible assumption | omega), by (first | decide +kernel | with_reducible assumption | omega), by (first | decide +kernel | with_reducible assumption | omega)⟩))), by (first | decide +kernel | with_reducible assumption | omega), by (first | decide +kernel | with_reducible assumption | omega), by (first | decide +kernel | with_reducible assumption | omega), by rw [z4E]; omega, by rw [z4E]; omega⟩⟩⟩
      ·
        exact absurd c48 (by (first | decide +kernel | with_reducible assumption | omega))
    ·
      replace g38 := g38.resolve_right (fun q => by (first | decide +kernel | with_reducible assumption | omega))
      refine V_iconst 1 d_Mod_readFresh_30 (by decide) ?_
      refine V_goto 35 d_Mod_readFresh_31 (by decide) ?_
      refine V_iconst 4 d_Mod_readFresh_35 (by decide) ?_
      refine N_callVV [.int 1, .int 4] [] cv_Mod_144 sk_116 rfl d_Mod_readFresh_36 rfl (Nat.le_of_ble_eq_true rfl) (by decide) (by decide) (c_Mod_needsX h5 hI7 1 1 tc_1 4 4 tc_4 g gZ gE (kn_call fh5 gK rfl) o9 o9Z o9E o9K o10 o10Z o10E o10K) (fun h64 p65 => ?_)
      obtain ⟨hI66, fh64, o68, o68Z, o68E, o68K, o69, o69Z, o69E, o69K, p65⟩ := p65
      have f67 : fr S_Mod_readFreshX_6 h h64 := fr_call f8 fh64 rfl
      have R70 : RM h64 T D := RM_fr fh64 rfl R11
      replace p65 := (p65.resolve_right (by (first | decide +kernel | with_reducible assumption | omega))).2
      refine V_aload_n 0 d_Mod_readFresh_39 rfl rfl ?_
      refine N_getK fa_Mod_102 sk_116 rfl d_Mod_readFresh_40 o68K ?_
      refine V_if_ne 86 o68E d_Mod_readFresh_43 (by decide) (fun c71 => ?_) (fun c71 => ?_)
      ·
        exact absurd c71 (by (first | decide +kernel | with_reducible assumption | omega))
      ·
        refine V_aload_n 0 d_Mod_readFresh_46 rfl rfl ?_
        refine V_getR fa_Mod_20 sk_116 rfl d_Mod_readFresh_47 ?_
        refine V_iload_n 1 d_Mod_readFresh_50 rfl rfl ?_
        refine V_iconst 4 d_Mod_readFresh_51 (by decide) ?_
        refine V_isubw d_Mod_readFresh_52 (fun z72 z72e => ?_)
        obtain rfl : z72 = 2 := z72e.trans (by decide)
        refine V_dup2 d_Mod_readFresh_53 rfl rfl ?_
        refine N_ialdK sk_120 tc_2 (by (first | decide +kernel | with_reducible assumption | omega)) d_Mod_readFresh_54 (kn_call fh64 (kn_call fh5 zK rfl) rfl) ?_
        refine V_iconst 1 d_Mod_readFresh_55 (by decide) ?_
        refine V_iload_n 3 d_Mod_readFresh_56 rfl rfl ?_
        refine N_ishl d_Mod_readFresh_57 (fun z74 z74Z z74E z74e => ?_)
        refine N_ior d_Mod_readFresh_58 (fun z75 z75Z z75E z75e => ?_)
        refine N_iast sk_120 tc_2 (by (first | decide +kernel | with_reducible assumption | omega)) d_Mod_readFresh_59 (fun h76 eh76 => ?_)
        have hI77 : Inv h76 := inv_full hI66 eh76 rfl
        have f78 : fr S_Mod_readFreshX_6 h h76 := fr_put f67 eh76 rfl
        refine V_aload_n 0 d_Mod_readFresh_60 rfl rfl ?_
        refine V_iload_n 1 d_Mod_readFresh_61 rfl rfl ?_
        refine V_bipush 8 d_Mod_readFresh_62 (by decide) ?_
        refine V_icmp_ge 79 tc_6 tc_8 d_Mod_readFresh_64 (by decide) (fun c80 => ?_) (fun c80 => ?_)
        ·
          exact absurd c80 (by decide)
        ·
          refine V_iload_n 3 d_Mod_readFresh_67 rfl rfl ?_
          refine V_aload_n 0 d_Mod_readFresh_68 rfl rfl ?_
          refine N_getK fa_Mod_78 sk_116 rfl d_Mod_readFresh_69 (kn_ne eh76 (kn_call fh64 (kn_call fh5 iK rfl) rfl) (by decide)) ?_
          refine V_icmp_le 79 z4E iE d_Mod_readFresh_72 (by decide) (fun c81 => ?_) (fun c81 => ?_)
          ·
            refine V_aload_n 0 d_Mod_readFresh_79 rfl rfl ?_
            refine N_getK fa_Mod_78 sk_116 rfl d_Mod_readFresh_80 (kn_ne eh76 (kn_call fh64 (kn_call fh5 iK rfl) rfl) (by decide)) ?_
            refine N_putI fp_Mod_78 sk_116 rfl d_Mod_readFresh_83 (fun h82 eh82 => ?_)
            have hI83 : Inv h82 := inv_full hI77 eh82 rfl
            have f84 : fr S_Mod_readFreshX_6 h h82 := fr_put f78 eh82 rfl
            have R85 : RM h82 (x_upT T 3 (x_vl b p0)) D := RM_fresh (l := 3) R70 ⟨by decide, by decide⟩ eh76 (kn_call fh64 (kn_call fh5 zK rfl) rfl) (by (first | decide +kernel | with_reducible assumption | omega)) (z4E.trans (by (first | decide +kernel | with_reducible assumption | omega))) (by assumption) (by assumption) rfl eh82 iE ((congrArg Int32.toInt (kn_call fh64 (kn_call fh5 iK rfl) rfl)).trans iE) (Or.inl ⟨by decide, by (first | decide +kernel | with_reducible assumption | omega)⟩)
            refine V_aload_n 0 d_Mod_readFresh_86 rfl rfl ?_
            refine N_callVV [] [] cv_Mod_152 sk_116 rfl d_Mod_readFresh_87 rfl (Nat.le_of_ble_eq_true rfl) (by decide) (by decide) (c_Mod_nextX h82 b hI83 s sZ sE (kn_nei eh82 (kn_ne eh76 (kn_call fh64 (kn_call fh5 sK rfl) rfl) (by decide)) (by decide)) p pZ pE (kn_nei eh82 (kn_ne eh76 (kn_call fh64 (kn_call fh5 pK rfl) rfl) (by decide)) (by decide)) g gZ gE (kn_nei eh82 (kn_ne eh76 (kn_call fh64 (kn_call fh5 gK rfl) rfl) (by decide)) (by decide)) k kZ kE (kn_nei eh82 (kn_ne eh76 (kn_call fh64 (kn_call fh5 kK rfl) rfl) (by decide)) (by decide)) v vZ vE (kn_nei eh82 (kn_ne eh76 (kn_call fh64 (kn_call fh5 vK rfl) rfl) (by decide)) (by decide)) o68 o68Z o68E (kn_nei eh82 (kn_ne eh76 o68K (by decide)) (by decide)) o69 o69Z o69E (kn_nei eh82 (kn_ne eh76 o69K (by decide)) (by decide)) (TP_fr f84 (fun _ => rfl) hy0) (by (first | decide +kernel | with_reducible assumption | omega))) (fun h87 p88 => ?_)
            obtain ⟨hI89, fh87, o91, o91Z, o91E, o91K, o92, o92Z, o92E, o92K, o93, o93Z, o93E, o93K, o94, o94Z, o94E, o94K, o95, o95Z, o95E, o95K, o96, o96Z, o96E, o96K, p88⟩ := p88
            have f90 : fr S_Mod_readFreshX_6 h h87 := fr_call f84 fh87 rfl
            have R97 : RM h87 (x_upT T 3 (x_vl b p0)) D := RM_fr fh87 rfl R85
            have g98 : 0 ≤ o91Z ∧ o91Z ≤ 160 := inv_at hI89 o91E o91K.symm rfl
            have g99 : 0 ≤ o92Z ∧ o92Z ≤ 160 := inv_at hI89 o92E o92K.symm rfl
            replace p88 := p88.resolve_left (fun q => by (first | decide +kernel | with_reducible assumption | omega))
            refine V_iload_n 3 d_Mod_readFresh_90 rfl rfl ?_
            exact V_iret rfl d_Mod_readFresh_91 ⟨z4, rfl, ⟨hI89, f90, o91, o91Z, o91E, o91K, o92, o92Z, o92E, o92K, o93, o93Z, o93E, o93K, o94, o94Z, o94E, o94K, o95, o95Z, o95E, o95K, o96, o96Z, o96E, o96K, ⟨(Or.inr (Or.inr (⟨by (first | decide +kernel | with_reducible assumption | omega), by (first | decide +kernel | with_reducible assumption | omega), by rw [z4E]; omega, (if q9 : o95Z = 0 then Or.inr ⟨q9, by (first | decide +kernel | with_reducible assumption | omega), by (first | decide +kernel | with_reducible assumption | omega), by (first | decide +kernel | with_reducible assumption | omega), by (first | decide +kernel | with_reducible assumption | omega), by (first | decide +kernel | with_reducible assumption | omega), by (first | decide +kernel | with_reducible assumption | omega), by (first | decide +kernel | with_reducible assumption | omega), by (first | decide +kernel | with_reducible assumption | omega), by (first | decide +kernel | with_reducible assumption | omega), by (first | decide +kernel | with_reducible assumption | omega), by (first | decide +kernel | with_reducible assumption | omega)⟩ else Or.inl ⟨by (first | decide +kernel | with_reducible assumption | omega), by (first | decide +kernel | with_reducible assumption | omega), by (first | decide +kernel | with_reducible assumption | omega)⟩), R97⟩))), by (first | decide +kernel | with_reducible assumption | omega), by (first | decide +kernel | with_reducible assumption | omega), by (first | decide +kernel | with_reducible assumption | omega), by rw [z4E]; omega, by rw [z4E]; omega⟩⟩⟩
          ·
            refine V_iload_n 3 d_Mod_readFresh_75 rfl rfl ?_
            refine V_goto 83 d_Mod_readFresh_76 (by decide) ?_
            refine N_putI fp_Mod_78 sk_116 rfl d_Mod_readFresh_83 (fun h100 eh100 => ?_)
            have hI101 : Inv h100 := inv_full hI77 eh100 rfl
            have f102 : fr S_Mod_readFreshX_6 h h100 := fr_put f78 eh100 rfl
            have R103 : RM h100 (x_upT T 3 (x_vl b p0)) D := RM_fresh (l := 3) R70 ⟨by decide, by decide⟩ eh76 (kn_call fh64 (kn_call fh5 zK rfl) rfl) (by (first | decide +kernel | with_reducible assumption | omega)) (z4E.trans (by (first | decide +kernel | with_reducible assumption | omega))) (by assumption) (by assumption) rfl eh100 z4E ((congrArg Int32.toInt (kn_call fh64 (kn_call fh5 iK rfl) rfl)).trans iE) (Or.inl ⟨by decide, by (first | decide +kernel | with_reducible assumption | omega)⟩)
            refine V_aload_n 0 d_Mod_readFresh_86 rfl rfl ?_
            refine N_callVV [] [] cv_Mod_152 sk_116 rfl d_Mod_readFresh_87 rfl (Nat.le_of_ble_eq_true rfl) (by decide) (by decide) (c_Mod_nextX h100 b hI101 s sZ sE (kn_nei eh100 (kn_ne eh76 (kn_call fh64 (kn_call fh5 sK rfl) rfl) (by decide)) (by decide)) p pZ pE (kn_nei eh100 (kn_ne eh76 (kn_call fh64 (kn_call fh5 pK rfl) rfl) (by decide)) (by decide)) g gZ gE (kn_nei eh100 (kn_ne eh76 (kn_call fh64 (kn_call fh5 gK rfl) rfl) (by decide)) (by decide)) k kZ kE (kn_nei eh100 (kn_ne eh76 (kn_call fh64 (kn_call fh5 kK rfl) rfl) (by decide)) (by decide)) v vZ vE (kn_nei eh100 (kn_ne eh76 (kn_call fh64 (kn_call fh5 vK rfl) rfl) (by decide)) (by decide)) o68 o68Z o68E (kn_nei eh100 (kn_ne eh76 o68K (by decide)) (by decide)) o69 o69Z o69E (kn_nei eh100 (kn_ne eh76 o69K (by decide)) (by decide)) (TP_fr f102 (fun _ => rfl) hy0) (by (first | decide +kernel | with_reducible assumption | omega))) (fun h105 p106 => ?_)
            obtain ⟨hI107, fh105, o109, o109Z, o109E, o109K, o110, o110Z, o110E, o110K, o111, o111Z, o111E, o111K, o112, o112Z, o112E, o112K, o113, o113Z, o113E, o113K, o114, o114Z, o114E, o114K, p106⟩ := p106
            have f108 : fr S_Mod_readFreshX_6 h h105 := fr_call f102 fh105 rfl
            have R115 : RM h105 (x_upT T 3 (x_vl b p0)) D := RM_fr fh105 rfl R103
            have g116 : 0 ≤ o109Z ∧ o109Z ≤ 160 := inv_at hI107 o109E o109K.symm rfl
            have g117 : 0 ≤ o110Z ∧ o110Z ≤ 160 := inv_at hI107 o110E o110K.symm rfl
            replace p106 := p106.resolve_left (fun q => by (first | decide +kernel | with_reducible assumption | omega))
            refine V_iload_n 3 d_Mod_readFresh_90 rfl rfl ?_
            exact V_iret rfl d_Mod_readFresh_91 ⟨z4, rfl, ⟨hI107, f108, o109, o109Z, o109E, o109K, o110, o110Z, o110E, o110K, o111, o111Z, o111E, o111K, o112, o112Z, o112E, o112K, o113, o113Z, o113E, o113K, o114, o114Z, o114E, o114K, ⟨(Or.inr (Or.inr (⟨by (first | decide +kernel | with_reducible assumption | omega), by (first | decide +kernel | with_reducible assumption | omega), by rw [z4E]; omega, (if q9 : o113Z = 0 then Or.inr ⟨q9, by (first | decide +kernel | with_reducible assumption | omega), by (first | decide +kernel | with_reducible assumption | omega), by (first | decide +kernel | with_reducible assumption | omega), by (first | decide +kernel | with_reducible assumption | omega), by (first | decide +kernel | with_reducible assumption | omega), by (first | decide +kernel | with_reducible assumption | omega), by (first | decide +kernel | with_reducible assumption | omega), by (first | decide +kernel | with_reducible assumption | omega), by (first | decide +kernel | with_reducible assumption | omega), by (first | decide +kernel | with_reducible assumption | omega), by (first | decide +kernel | with_reducible assumption | omega)⟩ else Or.inl ⟨by (first | decide +kernel | with_reducible assumption | omega), by (first | decide +kernel | with_reducible assumption | omega), by (first | decide +kernel | with_reducible assumption | omega)⟩), R115⟩))), by (first | decide +kernel | with_reducible assumption | omega), by (first | decide +kernel | with_reducible assumption | omega), by (first | decide +kernel | with_reducible assumption | omega), by rw [z4E]; omega, by rw [z4E]; omega⟩⟩⟩
def S_Mod_readFreshX_7 : List (Nat × Option Nat) := [(116, some 16), (116, some 17), (116, some 18), (116, some 19), (116, some 20), (116, some 21), (120, some 3), (116, some 13)]
abbrev q_Mod_readFreshX_7 (h : Hp) (b : Int → Int) (T : Nat → Int → Int) (D : Nat → Int) (p0 : Int) (s : Int32) (sZ : Int) (p : Int32) (pZ : Int) (g : Int32) (gZ : Int) (k : Int32) (kZ : Int) (v : Int32) (vZ : Int) (w : Int32) (wZ : Int) (a : Int32) (aZ : Int) (z : Int32) (zZ : Int) (i : Int32) (iZ : Int) : Option Value → Hp → Prop := pInt (fun r h' => Inv h' ∧ fr S_Mod_readFreshX_7 h h' ∧ ∃ (q : Int32) (qZ : Int), q.toInt = qZ ∧ h'.1 116 16 = q ∧ ∃ (f : Int32) (fZ : Int), f.toInt = fZ ∧ h'.1 116 17 = f ∧ ∃ (m : Int32) (mZ : Int), m.toInt = mZ ∧ h'.1 116 18 = m ∧ ∃ (x : Int32) (xZ : Int), x.toInt = xZ ∧ h'.1 116 19 = x ∧ ∃ (u : Int32) (uZ : Int), u.toInt = uZ ∧ h'.1 116 20 = u ∧ ∃ (y : Int32) (yZ : Int), y.toInt = yZ ∧ h'.1 116 21 = y ∧ ((x_cN b p0 0 15 ≠ 0 ∧ uZ = x_cN b p0 0 15 ∧ yZ = x_fr b p0 ∨ x_cN b p0 0 15 = 0 ∧ x_c4 (T 4 (x_vl b p0)) ≠ 0 ∧ uZ = 4 ∧ yZ = x_fr b p0 ∨ x_cN b p0 0 15 = 0 ∧ x_c4 (T 4 (x_vl b p0)) = 0 ∧ r.toInt = x_vl b p0 ∧ (uZ = 1 ∧ x_kd b (x_en b p0) = 4 ∧ yZ = x_fr b (x_en b p0) ∨ uZ = 0 ∧ fZ = x_fr b (x_en b p0) ∧ mZ = x_kd b (x_en b p0) ∧ mZ ≠ 4 ∧ 0 ≤ mZ ∧ mZ ≤ 3 ∧ qZ = x_en b (x_en b p0) ∧ (mZ ≠ 2 ∨ xZ = x_vl b (x_en b p0) ∧ 0 ≤ xZ ∧ xZ ≤ 99) ∧ (x_en b p0) ≤ fZ ∧ fZ ≤ qZ ∧ qZ ≤ sZ ∧ (mZ = 0 ∨ fZ < qZ)) ∧ RM h' (x_upT T 4 (x_vl b p0)) D) ∧ 0 ≤ qZ ∧ qZ ≤ sZ ∧ 0 ≤ uZ ∧ 0 ≤ r.toInt ∧ r.toInt ≤ 15))
set_option maxRecDepth 100000 in
theorem c_Mod_readFreshX_7 (h : Hp) (b : Int → Int) (T : Nat → Int → Int) (D : Nat → Int) (p0 : Int) (hI : Inv h) (s : Int32) (sZ : Int) (sE : s.toInt = sZ) (sK : h.1 116 15 = s) (p : Int32) (pZ : Int) (pE : p.toInt = pZ) (pK : h.1 116 16 = p) (g : Int32) (gZ : Int) (gE : g.toInt = gZ) (gK : h.1 116 17 = g) (k : Int32) (kZ : Int) (kE : k.toInt = kZ) (kK : h.1 116 18 = k) (v : Int32) (vZ : Int) (vE : v.toInt = vZ) (vK : h.1 116 19 = v) (w : Int32) (wZ : Int) (wE : w.toInt = wZ) (wK : h.1 116 20 = w) (a : Int32) (aZ : Int) (aE : a.toInt = aZ) (aK : h.1 116 21 = a) (z : Int32) (zZ : Int) (zE : z.toInt = zZ) (zK : h.1 120 3 = z) (i : Int32) (iZ : Int) (iE : i.toInt = iZ) (iK : h.1 116 13 = i) (hy0 : TP h 121 sZ b) (hy1 : 0 ≤ pZ ∧ pZ ≤ sZ ∧ wZ = 0) (hy2 : gZ = x_fr b p0 ∧ kZ = x_kd b p0 ∧ kZ ≠ 4 ∧ 0 ≤ kZ ∧ kZ ≤ 3 ∧ pZ = x_en b p0 ∧ (kZ ≠ 2 ∨ vZ = x_vl b p0 ∧ 0 ≤ vZ ∧ vZ ≤ 99) ∧ p0 ≤ gZ ∧ gZ ≤ pZ ∧ pZ ≤ sZ ∧ (kZ = 0 ∨ gZ < pZ)) (hy3 : RM h T D) : Ct y_Mod_readFresh b_Mod_readFresh 4 (some .int) 2 47 [.ref 116, .int 7, .int 15] h (q_Mod_readFreshX_7 h b T D p0 s sZ p pZ g gZ k kZ v vZ w wZ a aZ z zZ i iZ) := by
  refine ct_ow R_Mod [some (.ref 116), some (.int 7), some (.int 15), none] rfl (by decide) rfl (Nat.le_of_ble_eq_true rfl) ?_
  have f0 : fr S_Mod_readFreshX_7 h h := fr_rf
  have g1 : 0 ≤ sZ ∧ sZ ≤ 160 := inv_at hI sE sK.symm rfl
  have g2 : 0 ≤ pZ ∧ pZ ≤ 160 := inv_at hI pE pK.symm rfl
  have g3 : 0 ≤ gZ ∧ gZ ≤ 160 := inv_at hI gE gK.symm rfl
  refine V_aload_n 0 d_Mod_readFresh_0 rfl rfl ?_
  refine V_iconst 0 d_Mod_readFresh_1 (by decide) ?_
  refine V_iload_n 2 d_Mod_readFresh_2 rfl rfl ?_
  refine N_callVI [.int 0, .int 15] [] cv_Mod_148 sk_116 rfl d_Mod_readFresh_3 rfl (Nat.le_of_ble_eq_true rfl) (by decide) (by decide) (c_Mod_lookedX h hI 0 0 tc_0 15 15 tc_15 g gZ gE gK k kZ kE kK v vZ vE vK w wZ wE wK a aZ aE aK) (fun z4 h5 z4Z z4E p6 => ?_)
  obtain ⟨hI7, fh5, o9, o9Z, o9E, o9K, o10, o10Z, o10E, o10K, p6⟩ := p6
  have f8 : fr S_Mod_readFreshX_7 h h5 := fr_call f0 fh5 rfl
  have R11 : RM h5 T D := RM_fr fh5 rfl hy3
  refine V_istore_n 3 [some (.ref 116), some (.int 7), some (.int 15), some (.int z4)] d_Mod_readFresh_6 rfl (by decide) rfl rfl ?_
  replace p6 := lk_all hy2 hy1.2.2 p6
  replace hy2 := lx_s hy2
  have g12 : x_fr b pZ = x_fr b (x_en b p0) := congrArg (x_fr b) (by (first | decide +kernel | with_reducible assumption | omega))
  have g13 : x_kd b pZ = x_kd b (x_en b p0) := congrArg (x_kd b) (by (first | decide +kernel | with_reducible assumption | omega))
  have g14 : x_en b pZ = x_en b (x_en b p0) := congrArg (x_en b) (by (first | decide +kernel | with_reducible assumption | omega))
  have g15 : x_vl b pZ = x_vl b (x_en b p0) := congrArg (x_vl b) (by (first | decide +kernel | with_reducible assumption | omega))
  refine V_aload_n 0 d_Mod_readFresh_7 rfl rfl ?_
  refine N_getK fa_Mod_102 sk_116 rfl d_Mod_readFresh_8 o9K ?_
  refine V_if_ne 39 o9E d_Mod_readFresh_11 (by decide) (fun c16 => ?_) (fun c16 => ?_)
  ·
    replace p6 := And.intro p6.1 (p6.2.resolve_right (fun q => by (first | decide +kernel | with_reducible assumption | omega)))
    refine V_aload_n 0 d_Mod_readFresh_39 rfl rfl ?_
    refine N_getK fa_Mod_102 sk_116 rfl d_Mod_readFresh_40 o9K ?_
    refine V_if_ne 86 o9E d_Mod_readFresh_43 (by decide) (fun c17 => ?_) (fun c17 => ?_)
    ·
      refine V_aload_n 0 d_Mod_readFresh_86 rfl rfl ?_
      refine N_callVV [] [] cv_Mod_152 sk_116 rfl d_Mod_readFresh_87 rfl (Nat.le_of_ble_eq_true rfl) (by decide) (by decide) (c_Mod_nextX h5 b hI7 s sZ sE (kn_call fh5 sK rfl) p pZ pE (kn_call fh5 pK rfl) g gZ gE (kn_call fh5 gK rfl) k kZ kE (kn_call fh5 kK rfl) v vZ vE (kn_call fh5 vK rfl) o9 o9Z o9E o9K o10 o10Z o10E o10K (TP_fr f8 (fun _ => rfl) hy0) (by (first | decide +kernel | with_reducible assumption | omega))) (fun h19 p20 => ?_)
      obtain ⟨hI21, fh19, o23, o23Z, o23E, o23K, o24, o24Z, o24E, o24K, o25, o25Z, o25E, o25K, o26, o26Z, o26E, o26K, o27, o27Z, o27E, o27K, o28, o28Z, o28E, o28K, p20⟩ := p20
      have f22 : fr S_Mod_readFreshX_7 h h19 := fr_call f8 fh19 rfl
      have R29 : RM h19 T D := RM_fr fh19 rfl R11
      have g30 : 0 ≤ o23Z ∧ o23Z ≤ 160 := inv_at hI21 o23E o23K.symm rfl
      have g31 : 0 ≤ o24Z ∧ o24Z ≤ 160 := inv_at hI21 o24E o24K.symm rfl
      replace p20 := p20.resolve_right (fun q => by (first | decide +kernel | with_reducible assumption | omega))
      refine V_iload_n 3 d_Mod_readFresh_90 rfl rfl ?_
      exact V_iret rfl d_Mod_readFresh_91 ⟨z4, rfl, ⟨hI21, f22, o23, o23Z, o23E, o23K, o24, o24Z, o24E, o24K, o25, o25Z, o25E, o25K, o26, o26Z, o26E, o26K, o27, o27Z, o27E, o27K, o28, o28Z, o28E, o28K, ⟨(Or.inl (⟨by (first | decide +kernel | with_reducible assumption | omega), by (first | decide +kernel | with_reducible assumption | omega), by (first | decide +kernel | with_reducible assumption | omega)⟩)), by (first | decide +kernel | with_reducible assumption | omega), by (first | decide +kernel | with_reducible assumption | omega), by (first | decide +kernel | with_reducible assumption | omega), by rw [z4E]; omega, by rw [z4E]; omega⟩⟩⟩
    ·
      exact absurd c17 (by (first | decide +kernel | with_reducible assumption | omega))
  ·
    replace p6 := And.intro p6.1 (p6.2.resolve_left (fun q => by (first | decide +kernel | with_reducible assumption | omega)))
    refine V_aload_n 0 d_Mod_readFresh_14 rfl rfl ?_
    refine V_aload_n 0 d_Mod_readFresh_15 rfl rfl ?_
    refine V_getR fa_Mod_20 sk_116 rfl d_Mod_readFresh_16 ?_
    refine V_iload_n 1 d_Mod_readFresh_19 rfl rfl ?_
    refine V_iconst 4 d_Mod_readFresh_20 (by decide) ?_
    refine V_isubw d_Mod_readFresh_21 (fun z32 z32e => ?_)
    obtain rfl : z32 = 3 := z32e.trans (by decide)
    refine N_ialdK sk_120 tc_3 (by (first | decide +kernel | with_reducible assumption | omega)) d_Mod_readFresh_22 (kn_call fh5 zK rfl) ?_
    refine V_iload_n 3 d_Mod_readFresh_23 rfl rfl ?_
    refine N_ishr d_Mod_readFresh_24 (fun z34 z34Z z34E z34e => ?_)
    refine V_iconst 1 d_Mod_readFresh_25 (by decide) ?_
    refine N_iand d_Mod_readFresh_26 (fun z35 z35Z z35E z35e => ?_)
    have g36 : z35Z = T 4 z4Z := x_bt_of (RM_had R11 (by decide) (by decide) (kn_call fh5 zK rfl)) (by (first | decide +kernel | with_reducible assumption | omega)) (by (first | decide +kernel | with_reducible assumption | omega)) z4E z35E (by assumption) (by assumption)
    have g37 : T 4 z4Z = T 4 (x_vl b p0) := congrArg (T 4) (by (first | decide +kernel | with_reducible assumption | omega))
    have g38 := x_c4_s (T 4 (x_vl b p0))
    refine V_if_ne 34 z35E d_Mod_readFresh_27 (by decide) (fun c39 => ?_) (fun c39 => ?_)
    ·
      replace g38 := g38.resolve_left (fun q => by (first | decide +kernel | with_reducible assumption | omega))
      refine V_iconst 0 d_Mod_readFresh_34 (by decide) ?_
      refine V_iconst 4 d_Mod_readFresh_35 (by decide) ?_
      refine N_callVV [.int 0, .int 4] [] cv_Mod_144 sk_116 rfl d_Mod_readFresh_36 rfl (Nat.le_of_ble_eq_true rfl) (by decide) (by decide) (c_Mod_needsX h5 hI7 0 0 tc_0 4 4 tc_4 g gZ gE (kn_call fh5 gK rfl) o9 o9Z o9E o9K o10 o10Z o10E o10K) (fun h41 p42 => ?_)
      obtain ⟨hI43, fh41, o45, o45Z, o45E, o45K, o46, o46Z, o46E, o46K, p42⟩ := p42
      have f44 : fr S_Mod_readFreshX_7 h h41 := fr_call f8 fh41 rfl
      have R47 : RM h41 T D := RM_fr fh41 rfl R11
      replace p42 := (p42.resolve_left (by (first | decide +kernel | with_reducible assumption | omega))).2.2
      refine V_aload_n 0 d_Mod_readFresh_39 rfl rfl ?_
      refine N_getK fa_Mod_102 sk_116 rfl d_Mod_readFresh_40 o45K ?_
      refine V_if_ne 86 o45E d_Mod_readFresh_43 (by decide) (fun c48 => ?_) (fun c48 => ?_)
      ·
        refine V_aload_n 0 d_Mod_readFresh_86 rfl rfl ?_
        refine N_callVV [] [] cv_Mod_152 sk_116 rfl d_Mod_readFresh_87 rfl (Nat.le_of_ble_eq_true rfl) (by decide) (by decide) (c_Mod_nextX h41 b hI43 s sZ sE (kn_call fh41 (kn_call fh5 sK rfl) rfl) p pZ pE (kn_call fh41 (kn_call fh5 pK rfl) rfl) g gZ gE (kn_call fh41 (kn_call fh5 gK rfl) rfl) k kZ kE (kn_call fh41 (kn_call fh5 kK rfl) rfl) v vZ vE (kn_call fh41 (kn_call fh5 vK rfl) rfl) o45 o45Z o45E o45K o46 o46Z o46E o46K (TP_fr f44 (fun _ => rfl) hy0) (by (first | decide +kernel | with_reducible assumption | omega))) (fun h50 p51 => ?_)
        obtain ⟨hI52, fh50, o54, o54Z, o54E, o54K, o55, o55Z, o55E, o55K, o56, o56Z, o56E, o56K, o57, o57Z, o57E, o57K, o58, o58Z, o58E, o58K, o59, o59Z, o59E, o59K, p51⟩ := p51
        have f53 : fr S_Mod_readFreshX_7 h h50 := fr_call f44 fh50 rfl
        have R60 : RM h50 T D := RM_fr fh50 rfl R47
        have g61 : 0 ≤ o54Z ∧ o54Z ≤ 160 := inv_at hI52 o54E o54K.symm rfl
        have g62 : 0 ≤ o55Z ∧ o55Z ≤ 160 := inv_at hI52 o55E o55K.symm rfl
        replace p51 := p51.resolve_right (fun q => by (first | decide +kernel | with_reducible assumption | omega))
        refine V_iload_n 3 d_Mod_readFresh_90 rfl rfl ?_
        exact V_iret rfl d_Mod_readFresh_91 ⟨z4, rfl, ⟨hI52, f53, o54, o54Z, o54E, o54K, o55, o55Z, o55E, o55K, o56, o56Z, o56E, o56K, o57, o57Z, o57E, o57K, o58, o58Z, o58E, o58K, o59, o59Z, o59E, o59K, ⟨(Or.inr (Or.inl (⟨by (first | decide +kernel | with_reducible assumption | omega), by (first | decide +kernel | with_reducible assumption | omega), by (first | decide +kernel | with_reducible assumption | omega), by (first | decide +kernel | with_reducible assumption | omega)⟩))), by (first | decide +kernel | with_reducible assumption | omega), by (first | decide +kernel | with_reducible assumption | omega), by (first | decide +kernel | with_reducible assumption | omega), by rw [z4E]; omega, by rw [z4E]; omega⟩⟩⟩
      ·
        exact absurd c48 (by (first | decide +kernel | with_reducible assumption | omega))
    ·
      replace g38 := g38.resolve_right (fun q => by (first | decide +kernel | with_reducible assumption | omega))
      refine V_iconst 1 d_Mod_readFresh_30 (by decide) ?_
      refine V_goto 35 d_Mod_readFresh_31 (by decide) ?_
      refine V_iconst 4 d_Mod_readFresh_35 (by decide) ?_
      refine N_callVV [.int 1, .int 4] [] cv_Mod_144 sk_116 rfl d_Mod_readFresh_36 rfl (Nat.le_of_ble_eq_true rfl) (by decide) (by decide) (c_Mod_needsX h5 hI7 1 1 tc_1 4 4 tc_4 g gZ gE (kn_call fh5 gK rfl) o9 o9Z o9E o9K o10 o10Z o10E o10K) (fun h64 p65 => ?_)
      obtain ⟨hI66, fh64, o68, o68Z, o68E, o68K, o69, o69Z, o69E, o69K, p65⟩ := p65
      have f67 : fr S_Mod_readFreshX_7 h h64 := fr_call f8 fh64 rfl
      have R70 : RM h64 T D := RM_fr fh64 rfl R11
      replace p65 := (p65.resolve_right (by (first | decide +kernel | with_reducible assumption | omega))).2
      refine V_aload_n 0 d_Mod_readFresh_39 rfl rfl ?_
      refine N_getK fa_Mod_102 sk_116 rfl d_Mod_readFresh_40 o68K ?_
      refine V_if_ne 86 o68E d_Mod_readFresh_43 (by decide) (fun c71 => ?_) (fun c71 => ?_)
      ·
        exact absurd c71 (by (first | decide +kernel | with_reducible assumption | omega))
      ·
        refine V_aload_n 0 d_Mod_readFresh_46 rfl rfl ?_
        refine V_getR fa_Mod_20 sk_116 rfl d_Mod_readFresh_47 ?_
        refine V_iload_n 1 d_Mod_readFresh_50 rfl rfl ?_
        refine V_iconst 4 d_Mod_readFresh_51 (by decide) ?_
        refine V_isubw d_Mod_readFresh_52 (fun z72 z72e => ?_)
        obtain rfl : z72 = 3 := z72e.trans (by decide)
        refine V_dup2 d_Mod_readFresh_53 rfl rfl ?_
        refine N_ialdK sk_120 tc_3 (by (first | decide +kernel | with_reducible assumption | omega)) d_Mod_readFresh_54 (kn_call fh64 (kn_call fh5 zK rfl) rfl) ?_
        refine V_iconst 1 d_Mod_readFresh_55 (by decide) ?_
        refine V_iload_n 3 d_Mod_readFresh_56 rfl rfl ?_
        refine N_ishl d_Mod_readFresh_57 (fun z74 z74Z z74E z74e => ?_)
        refine N_ior d_Mod_readFresh_58 (fun z75 z75Z z75E z75e => ?_)
        refine N_iast sk_120 tc_3 (by (first | decide +kernel | with_reducible assumption | omega)) d_Mod_readFresh_59 (fun h76 eh76 => ?_)
        have hI77 : Inv h76 := inv_full hI66 eh76 rfl
        have f78 : fr S_Mod_readFreshX_7 h h76 := fr_put f67 eh76 rfl
        refine V_aload_n 0 d_Mod_readFresh_60 rfl rfl ?_
        refine V_iload_n 1 d_Mod_readFresh_61 rfl rfl ?_
        refine V_bipush 8 d_Mod_readFresh_62 (by decide) ?_
        refine V_icmp_ge 79 tc_7 tc_8 d_Mod_readFresh_64 (by decide) (fun c80 => ?_) (fun c80 => ?_)
        ·
          exact absurd c80 (by decide)
        ·
          refine V_iload_n 3 d_Mod_readFresh_67 rfl rfl ?_
          refine V_aload_n 0 d_Mod_readFresh_68 rfl rfl ?_
          refine N_getK fa_Mod_78 sk_116 rfl d_Mod_readFresh_69 (kn_ne eh76 (kn_call fh64 (kn_call fh5 iK rfl) rfl) (by decide)) ?_
          refine V_icmp_le 79 z4E iE d_Mod_readFresh_72 (by decide) (fun c81 => ?_) (fun c81 => ?_)
          ·
            refine V_aload_n 0 d_Mod_readFresh_79 rfl rfl ?_
            refine N_getK fa_Mod_78 sk_116 rfl d_Mod_readFresh_80 (kn_ne eh76 (kn_call fh64 (kn_call fh5 iK rfl) rfl) (by decide)) ?_
            refine N_putI fp_Mod_78 sk_116 rfl d_Mod_readFresh_83 (fun h82 eh82 => ?_)
            have hI83 : Inv h82 := inv_full hI77 eh82 rfl
            have f84 : fr S_Mod_readFreshX_7 h h82 := fr_put f78 eh82 rfl
            have R85 : RM h82 (x_upT T 4 (x_vl b p0)) D := RM_fresh (l := 4) R70 ⟨by decide, by decide⟩ eh76 (kn_call fh64 (kn_call fh5 zK rfl) rfl) (by (first | decide +kernel | with_reducible assumption | omega)) (z4E.trans (by (first | decide +kernel | with_reducible assumption | omega))) (by assumption) (by assumption) rfl eh82 iE ((congrArg Int32.toInt (kn_call fh64 (kn_call fh5 iK rfl) rfl)).trans iE) (Or.inl ⟨by decide, by (first | decide +kernel | with_reducible assumption | omega)⟩)
            refine V_aload_n 0 d_Mod_readFresh_86 rfl rfl ?_
            refine N_callVV [] [] cv_Mod_152 sk_116 rfl d_Mod_readFresh_87 rfl (Nat.le_of_ble_eq_true rfl) (by decide) (by decide) (c_Mod_nextX h82 b hI83 s sZ sE (kn_nei eh82 (kn_ne eh76 (kn_call fh64 (kn_call fh5 sK rfl) rfl) (by decide)) (by decide)) p pZ pE (kn_nei eh82 (kn_ne eh76 (kn_call fh64 (kn_call fh5 pK rfl) rfl) (by decide)) (by decide)) g gZ gE (kn_nei eh82 (kn_ne eh76 (kn_call fh64 (kn_call fh5 gK rfl) rfl) (by decide)) (by decide)) k kZ kE (kn_nei eh82 (kn_ne eh76 (kn_call fh64 (kn_call fh5 kK rfl) rfl) (by decide)) (by decide)) v vZ vE (kn_nei eh82 (kn_ne eh76 (kn_call fh64 (kn_call fh5 vK rfl) rfl) (by decide)) (by decide)) o68 o68Z o68E (kn_nei eh82 (kn_ne eh76 o68K (by decide)) (by decide)) o69 o69Z o69E (kn_nei eh82 (kn_ne eh76 o69K (by decide)) (by decide)) (TP_fr f84 (fun _ => rfl) hy0) (by (first | decide +kernel | with_reducible assumption | omega))) (fun h87 p88 => ?_)
            obtain ⟨hI89, fh87, o91, o91Z, o91E, o91K, o92, o92Z, o92E, o92K, o93, o93Z, o93E, o93K, o94, o94Z, o94E, o94K, o95, o95Z, o95E, o95K, o96, o96Z, o96E, o96K, p88⟩ := p88
            have f90 : fr S_Mod_readFreshX_7 h h87 := fr_call f84 fh87 rfl
            have R97 : RM h87 (x_upT T 4 (x_vl b p0)) D := RM_fr fh87 rfl R85
            have g98 : 0 ≤ o91Z ∧ o91Z ≤ 160 := inv_at hI89 o91E o91K.symm rfl
            have g99 : 0 ≤ o92Z ∧ o92Z ≤ 160 := inv_at hI89 o92E o92K.symm rfl
            replace p88 := p88.resolve_left (fun q => by (first | decide +kernel | with_reducible assumption | omega))
            refine V_iload_n 3 d_Mod_readFresh_90 rfl rfl ?_
            exact V_iret rfl d_Mod_readFresh_91 ⟨z4, rfl, ⟨hI89, f90, o91, o91Z, o91E, o91K, o92, o92Z, o92E, o92K, o93, o93Z, o93E, o93K, o94, o94Z, o94E, o94K, o95, o95Z, o95E, o95K, o96, o96Z, o96E, o96K, ⟨(Or.inr (Or.inr (⟨by (first | decide +kernel | with_reducible assumption | omega), by (first | decide +kernel | with_reducible assumption | omega), by rw [z4E]; omega, (if q9 : o95Z = 0 then Or.inr ⟨q9, by (first | decide +kernel | with_reducible assumption | omega), by (first | decide +kernel | with_reducible assumption | omega), by (first | decide +kernel | with_reducible assumption | omega), by (first | decide +kernel | with_reducible assumption | omega), by (first | decide +kernel | with_reducible assumption | omega), by (first | decide +kernel | with_reducible assumption | omega), by (first | decide +kernel | with_reducible assumption | omega), by (first | decide +kernel | with_reducible assumption | omega), by (first | decide +kernel | with_reducible assumption | omega), by (first | decide +kernel | with_reducible assumption | omega), by (first | decide +kernel | with_reducible assumption | omega)⟩ else Or.inl ⟨by (first | decide +kernel | with_reducible assumption | omega), by (first | decide +kernel | with_reducible assumption | omega), by (first | decide +kernel | with_reducible assumption | omega)⟩), R97⟩))), by (first | decide +kernel | with_reducible assumption | omega), by (first | decide +kernel | with_reducible assumption | omega), by (first | decide +kernel | with_reducible assumption | omega), by rw [z4E]; omega, by rw [z4E]; omega⟩⟩⟩
          ·
            refine V_iload_n 3 d_Mod_readFresh_75 rfl rfl ?_
            refine V_goto 83 d_Mod_readFresh_76 (by decide) ?_
            refine N_putI fp_Mod_78 sk_116 rfl d_Mod_readFresh_83 (fun h100 eh100 => ?_)
            have hI101 : Inv h100 := inv_full hI77 eh100 rfl
            have f102 : fr S_Mod_readFreshX_7 h h100 := fr_put f78 eh100 rfl
            have R103 : RM h100 (x_upT T 4 (x_vl b p0)) D := RM_fresh (l := 4) R70 ⟨by decide, by decide⟩ eh76 (kn_call fh64 (kn_call fh5 zK rfl) rfl) (by (first | decide +kernel | with_reducible assumption | omega)) (z4E.trans (by (first | decide +kernel | with_reducible assumption | omega))) (by assumption) (by assumption) rfl eh100 z4E ((congrArg Int32.toInt (kn_call fh64 (kn_call fh5 iK rfl) rfl)).trans iE) (Or.inl ⟨by decide, by (first | decide +kernel | with_reducible assumption | omega)⟩)
            refine V_aload_n 0 d_Mod_readFresh_86 rfl rfl ?_
            refine N_callVV [] [] cv_Mod_152 sk_116 rfl d_Mod_readFresh_87 rfl (Nat.le_of_ble_eq_true rfl) (by decide) (by decide) (c_Mod_nextX h100 b hI101 s sZ sE (kn_nei eh100 (kn_ne eh76 (kn_call fh64 (kn_call fh5 sK rfl) rfl) (by decide)) (by decide)) p pZ pE (kn_nei eh100 (kn_ne eh76 (kn_call fh64 (kn_call fh5 pK rfl) rfl) (by decide)) (by decide)) g gZ gE (kn_nei eh100 (kn_ne eh76 (kn_call fh64 (kn_call fh5 gK rfl) rfl) (by decide)) (by decide)) k kZ kE (kn_nei eh100 (kn_ne eh76 (kn_call fh64 (kn_call fh5 kK rfl) rfl) (by decide)) (by decide)) v vZ vE (kn_nei eh100 (kn_ne eh76 (kn_call fh64 (kn_call fh5 vK rfl) rfl) (by decide)) (by decide)) o68 o68Z o68E (kn_nei eh100 (kn_ne eh76 o68K (by decide)) (by decide)) o69 o69Z o69E (kn_nei eh100 (kn_ne eh76 o69K (by decide)) (by decide)) (TP_fr f102 (fun _ => rfl) hy0) (by (first | decide +kernel | with_reducible assumption | omega))) (fun h105 p106 => ?_)
            obtain ⟨hI107, fh105, o109, o109Z, o109E, o109K, o110, o110Z, o110E, o110K, o111, o111Z, o111E, o111K, o112, o112Z, o112E, o112K, o113, o113Z, o113E, o113K, o114, o114Z, o114E, o114K, p106⟩ := p106
            have f108 : fr S_Mod_readFreshX_7 h h105 := fr_call f102 fh105 rfl
            have R115 : RM h105 (x_upT T 4 (x_vl b p0)) D := RM_fr fh105 rfl R103
            have g116 : 0 ≤ o109Z ∧ o109Z ≤ 160 := inv_at hI107 o109E o109K.symm rfl
            have g117 : 0 ≤ o110Z ∧ o110Z ≤ 160 := inv_at hI107 o110E o110K.symm rfl
            replace p106 := p106.resolve_left (fun q => by (first | decide +kernel | with_reducible assumption | omega))
            refine V_iload_n 3 d_Mod_readFresh_90 rfl rfl ?_
            exact V_iret rfl d_Mod_readFresh_91 ⟨z4, rfl, ⟨hI107, f108, o109, o109Z, o109E, o109K, o110, o110Z, o110E, o110K, o111, o111Z, o111E, o111K, o112, o112Z, o112E, o112K, o113, o113Z, o113E, o113K, o114, o114Z, o114E, o114K, ⟨(Or.inr (Or.inr (⟨by (first | decide +kernel | with_reducible assumption | omega), by (first | decide +kernel | with_reducible assumption | omega), by rw [z4E]; omega, (if q9 : o113Z = 0 then Or.inr ⟨q9, by (first | decide +kernel | with_reducible assumption | omega), by (first | decide +kernel | with_reducible assumption | omega), by (first | decide +kernel | with_reducible assumption | omega), by (first | decide +kernel | with_reducible assumption | omega), by (first | decide +kernel | with_reducible assumption | omega), by (first | decide +kernel | with_reducible assumption | omega), by (first | decide +kernel | with_reducible assumption | omega), by (first | decide +kernel | with_reducible assumption | omega), by (first | decide +kernel | with_reducible assumption | omega), by (first | decide +kernel | with_reducible assumption | omega), by (first | decide +kernel | with_reducible assumption | omega)⟩ else Or.inl ⟨by (first | decide +kernel | with_reducible assumption | omega), by (first | decide +kernel | with_reducible assumption | omega), by (first | decide +kernel | with_reducible assumption | omega)⟩), R115⟩))), by (first | decide +kernel | with_reducible assumption | omega), by (first | decide +kernel | with_reducible assumption | omega), by (first | decide +kernel | with_reducible assumption | omega), by rw [z4E]; omega, by rw [z4E]; omega⟩⟩⟩
def S_Mod_readFreshX_8 : List (Nat × Option Nat) := [(116, some 16), (116, some 17), (116, some 18), (116, some 19), (116, some 20), (116, some 21), (120, some 4), (116, some 13)]
abbrev q_Mod_readFreshX_8 (h : Hp) (b : Int → Int) (T : Nat → Int → Int) (D : Nat → Int) (p0 : Int) (s : Int32) (sZ : Int) (p : Int32) (pZ : Int) (g : Int32) (gZ : Int) (k : Int32) (kZ : Int) (v : Int32) (vZ : Int) (w : Int32) (wZ : Int) (a : Int32) (aZ : Int) (z : Int32) (zZ : Int) (i : Int32) (iZ : Int) : Option Value → Hp → Prop := pInt (fun r h' => Inv h' ∧ fr S_Mod_readFreshX_8 h h' ∧ ∃ (q : Int32) (qZ : Int), q.toInt = qZ ∧ h'.1 116 16 = q ∧ ∃ (f : Int32) (fZ : Int), f.toInt = fZ ∧ h'.1 116 17 = f ∧ ∃ (m : Int32) (mZ : Int), m.toInt = mZ ∧ h'.1 116 18 = m ∧ ∃ (x : Int32) (xZ : Int), x.toInt = xZ ∧ h'.1 116 19 = x ∧ ∃ (u : Int32) (uZ : Int), u.toInt = uZ ∧ h'.1 116 20 = u ∧ ∃ (y : Int32) (yZ : Int), y.toInt = yZ ∧ h'.1 116 21 = y ∧ ((x_cN b p0 0 3 ≠ 0 ∧ uZ = x_cN b p0 0 3 ∧ yZ = x_fr b p0 ∨ x_cN b p0 0 3 = 0 ∧ x_c4 (T 5 (x_vl b p0)) ≠ 0 ∧ uZ = 4 ∧ yZ = x_fr b p0 ∨ x_cN b p0 0 3 = 0 ∧ x_c4 (T 5 (x_vl b p0)) = 0 ∧ r.toInt = x_vl b p0 ∧ (uZ = 1 ∧ x_kd b (x_en b p0) = 4 ∧ yZ = x_fr b (x_en b p0) ∨ uZ = 0 ∧ fZ = x_fr b (x_en b p0) ∧ mZ = x_kd b (x_en b p0) ∧ mZ ≠ 4 ∧ 0 ≤ mZ ∧ mZ ≤ 3 ∧ qZ = x_en b (x_en b p0) ∧ (mZ ≠ 2 ∨ xZ = x_vl b (x_en b p0) ∧ 0 ≤ xZ ∧ xZ ≤ 99) ∧ (x_en b p0) ≤ fZ ∧ fZ ≤ qZ ∧ qZ ≤ sZ ∧ (mZ = 0 ∨ fZ < qZ)) ∧ RM h' (x_upT T 5 (x_vl b p0)) D) ∧ 0 ≤ qZ ∧ qZ ≤ sZ ∧ 0 ≤ uZ ∧ 0 ≤ r.toInt ∧ r.toInt ≤ 3))
set_option maxRecDepth 100000 in
theorem c_Mod_readFreshX_8 (h : Hp) (b : Int → Int) (T : Nat → Int → Int) (D : Nat → Int) (p0 : Int) (hI : Inv h) (s : Int32) (sZ : Int) (sE : s.toInt = sZ) (sK : h.1 116 15 = s) (p : Int32) (pZ : Int) (pE : p.toInt = pZ) (pK : h.1 116 16 = p) (g : Int32) (gZ : Int) (gE : g.toInt = gZ) (gK : h.1 116 17 = g) (k : Int32) (kZ : Int) (kE : k.toInt = kZ) (kK : h.1 116 18 = k) (v : Int32) (vZ : Int) (vE : v.toInt = vZ) (vK : h.1 116 19 = v) (w : Int32) (wZ : Int) (wE : w.toInt = wZ) (wK : h.1 116 20 = w) (a : Int32) (aZ : Int) (aE : a.toInt = aZ) (aK : h.1 116 21 = a) (z : Int32) (zZ : Int) (zE : z.toInt = zZ) (zK : h.1 120 4 = z) (i : Int32) (iZ : Int) (iE : i.toInt = iZ) (iK : h.1 116 13 = i) (hy0 : TP h 121 sZ b) (hy1 : 0 ≤ pZ ∧ pZ ≤ sZ ∧ wZ = 0) (hy2 : gZ = x_fr b p0 ∧ kZ = x_kd b p0 ∧ kZ ≠ 4 ∧ 0 ≤ kZ ∧ kZ ≤ 3 ∧ pZ = x_en b p0 ∧ (kZ ≠ 2 ∨ vZ = x_vl b p0 ∧ 0 ≤ vZ ∧ vZ ≤ 99) ∧ p0 ≤ gZ ∧ gZ ≤ pZ ∧ pZ ≤ sZ ∧ (kZ = 0 ∨ gZ < pZ)) (hy3 : RM h T D) : Ct y_Mod_readFresh b_Mod_readFresh 4 (some .int) 2 47 [.ref 116, .int 8, .int 3] h (q_Mod_readFreshX_8 h b T D p0 s sZ p pZ g gZ k kZ v vZ w wZ a aZ z zZ i iZ) := by
  refine ct_ow R_Mod [some (.ref 116), some (.int 8), some (.int 3), none] rfl (by decide) rfl (Nat.le_of_ble_eq_true rfl) ?_
  have f0 : fr S_Mod_readFreshX_8 h h := fr_rf
  have g1 : 0 ≤ sZ ∧ sZ ≤ 160 := inv_at hI sE sK.symm rfl
  have g2 : 0 ≤ pZ ∧ pZ ≤ 160 := inv_at hI pE pK.symm rfl
  have g3 : 0 ≤ gZ ∧ gZ ≤ 160 := inv_at hI gE gK.symm rfl
  refine V_aload_n 0 d_Mod_readFresh_0 rfl rfl ?_
  refine V_iconst 0 d_Mod_readFresh_1 (by decide) ?_
  refine V_iload_n 2 d_Mod_readFresh_2 rfl rfl ?_
  refine N_callVI [.int 0, .int 3] [] cv_Mod_148 sk_116 rfl d_Mod_readFresh_3 rfl (Nat.le_of_ble_eq_true rfl) (by decide) (by decide) (c_Mod_lookedX h hI 0 0 tc_0 3 3 tc_3 g gZ gE gK k kZ kE kK v vZ vE vK w wZ wE wK a aZ aE aK) (fun z4 h5 z4Z z4E p6 => ?_)
  obtain ⟨hI7, fh5, o9, o9Z, o9E, o9K, o10, o10Z, o10E, o10K, p6⟩ := p6
  have f8 : fr S_Mod_readFreshX_8 h h5 := fr_call f0 fh5 rfl
  have R11 : RM h5 T D := RM_fr fh5 rfl hy3
  refine V_istore_n 3 [some (.ref 116), some (.int 8), some (.int 3), some (.int z4)] d_Mod_readFresh_6 rfl (by decide) rfl rfl ?_
  replace p6 := lk_all hy2 hy1.2.2 p6
  replace hy2 := lx_s hy2
  have g12 : x_fr b pZ = x_fr b (x_en b p0) := congrArg (x_fr b) (by (first | decide +kernel | with_reducible assumption | omega))
  have g13 : x_kd b pZ = x_kd b (x_en b p0) := congrArg (x_kd b) (by (first | decide +kernel | with_reducible assumption | omega))
  have g14 : x_en b pZ = x_en b (x_en b p0) := congrArg (x_en b) (by (first | decide +kernel | with_reducible assumption | omega))
  have g15 : x_vl b pZ = x_vl b (x_en b p0) := congrArg (x_vl b) (by (first | decide +kernel | with_reducible assumption | omega))
  refine V_aload_n 0 d_Mod_readFresh_7 rfl rfl ?_
  refine N_getK fa_Mod_102 sk_116 rfl d_Mod_readFresh_8 o9K ?_
  refine V_if_ne 39 o9E d_Mod_readFresh_11 (by decide) (fun c16 => ?_) (fun c16 => ?_)
  ·
    replace p6 := And.intro p6.1 (p6.2.resolve_right (fun q => by (first | decide +kernel | with_reducible assumption | omega)))
    refine V_aload_n 0 d_Mod_readFresh_39 rfl rfl ?_
    refine N_getK fa_Mod_102 sk_116 rfl d_Mod_readFresh_40 o9K ?_
    refine V_if_ne 86 o9E d_Mod_readFresh_43 (by decide) (fun c17 => ?_) (fun c17 => ?_)
    ·
      refine V_aload_n 0 d_Mod_readFresh_86 rfl rfl ?_
      refine N_callVV [] [] cv_Mod_152 sk_116 rfl d_Mod_readFresh_87 rfl (Nat.le_of_ble_eq_true rfl) (by decide) (by decide) (c_Mod_nextX h5 b hI7 s sZ sE (kn_call fh5 sK rfl) p pZ pE (kn_call fh5 pK rfl) g gZ gE (kn_call fh5 gK rfl) k kZ kE (kn_call fh5 kK rfl) v vZ vE (kn_call fh5 vK rfl) o9 o9Z o9E o9K o10 o10Z o10E o10K (TP_fr f8 (fun _ => rfl) hy0) (by (first | decide +kernel | with_reducible assumption | omega))) (fun h19 p20 => ?_)
      obtain ⟨hI21, fh19, o23, o23Z, o23E, o23K, o24, o24Z, o24E, o24K, o25, o25Z, o25E, o25K, o26, o26Z, o26E, o26K, o27, o27Z, o27E, o27K, o28, o28Z, o28E, o28K, p20⟩ := p20
      have f22 : fr S_Mod_readFreshX_8 h h19 := fr_call f8 fh19 rfl
      have R29 : RM h19 T D := RM_fr fh19 rfl R11
      have g30 : 0 ≤ o23Z ∧ o23Z ≤ 160 := inv_at hI21 o23E o23K.symm rfl
      have g31 : 0 ≤ o24Z ∧ o24Z ≤ 160 := inv_at hI21 o24E o24K.symm rfl
      replace p20 := p20.resolve_right (fun q => by (first | decide +kernel | with_reducible assumption | omega))
      refine V_iload_n 3 d_Mod_readFresh_90 rfl rfl ?_
      exact V_iret rfl d_Mod_readFresh_91 ⟨z4, rfl, ⟨hI21, f22, o23, o23Z, o23E, o23K, o24, o24Z, o24E, o24K, o25, o25Z, o25E, o25K, o26, o26Z, o26E, o26K, o27, o27Z, o27E, o27K, o28, o28Z, o28E, o28K, ⟨(Or.inl (⟨by (first | decide +kernel | with_reducible assumption | omega), by (first | decide +kernel | with_reducible assumption | omega), by (first | decide +kernel | with_reducible assumption | omega)⟩)), by (first | decide +kernel | with_reducible assumption | omega), by (first | decide +kernel | with_reducible assumption | omega), by (first | decide +kernel | with_reducible assumption | omega), by rw [z4E]; omega, by rw [z4E]; omega⟩⟩⟩
    ·
      exact absurd c17 (by (first | decide +kernel | with_reducible assumption | omega))
  ·
    replace p6 := And.intro p6.1 (p6.2.resolve_left (fun q => by (first | decide +kernel | with_reducible assumption | omega)))
    refine V_aload_n 0 d_Mod_readFresh_14 rfl rfl ?_
    refine V_aload_n 0 d_Mod_readFresh_15 rfl rfl ?_
    refine V_getR fa_Mod_20 sk_116 rfl d_Mod_readFresh_16 ?_
    refine V_iload_n 1 d_Mod_readFresh_19 rfl rfl ?_
    refine V_iconst 4 d_Mod_readFresh_20 (by decide) ?_
    refine V_isubw d_Mod_readFresh_21 (fun z32 z32e => ?_)
    obtain rfl : z32 = 4 := z32e.trans (by decide)
    refine N_ialdK sk_120 tc_4 (by (first | decide +kernel | with_reducible assumption | omega)) d_Mod_readFresh_22 (kn_call fh5 zK rfl) ?_
    refine V_iload_n 3 d_Mod_readFresh_23 rfl rfl ?_
    refine N_ishr d_Mod_readFresh_24 (fun z34 z34Z z34E z34e => ?_)
    refine V_iconst 1 d_Mod_readFresh_25 (by decide) ?_
    refine N_iand d_Mod_readFresh_26 (fun z35 z35Z z35E z35e => ?_)
    have g36 : z35Z = T 5 z4Z := x_bt_of (RM_had R11 (by decide) (by decide) (kn_call fh5 zK rfl)) (by (first | decide +kernel | with_reducible assumption | omega)) (by (first | decide +kernel | with_reducible assumption | omega)) z4E z35E (by assumption) (by assumption)
    have g37 : T 5 z4Z = T 5 (x_vl b p0) := congrArg (T 5) (by (first | decide +kernel | with_reducible assumption | omega))
    have g38 := x_c4_s (T 5 (x_vl b p0))
    refine V_if_ne 34 z35E d_Mod_readFresh_27 (by decide) (fun c39 => ?_) (fun c39 => ?_)
    ·
      replace g38 := g38.resolve_left (fun q => by (first | decide +kernel | with_reducible assumption | omega))
      refine V_iconst 0 d_Mod_readFresh_34 (by decide) ?_
      refine V_iconst 4 d_Mod_readFresh_35 (by decide) ?_
      refine N_callVV [.int 0, .int 4] [] cv_Mod_144 sk_116 rfl d_Mod_readFresh_36 rfl (Nat.le_of_ble_eq_true rfl) (by decide) (by decide) (c_Mod_needsX h5 hI7 0 0 tc_0 4 4 tc_4 g gZ gE (kn_call fh5 gK rfl) o9 o9Z o9E o9K o10 o10Z o10E o10K) (fun h41 p42 => ?_)
      obtain ⟨hI43, fh41, o45, o45Z, o45E, o45K, o46, o46Z, o46E, o46K, p42⟩ := p42
      have f44 : fr S_Mod_readFreshX_8 h h41 := fr_call f8 fh41 rfl
      have R47 : RM h41 T D := RM_fr fh41 rfl R11
      replace p42 := (p42.resolve_left (by (first | decide +kernel | with_reducible assumption | omega))).2.2
      refine V_aload_n 0 d_Mod_readFresh_39 rfl rfl ?_
      refine N_getK fa_Mod_102 sk_116 rfl d_Mod_readFresh_40 o45K ?_
      refine V_if_ne 86 o45E d_Mod_readFresh_43 (by decide) (fun c48 => ?_) (fun c48 => ?_)
      ·
        refine V_aload_n 0 d_Mod_readFresh_86 rfl rfl ?_
        refine N_callVV [] [] cv_Mod_152 sk_116 rfl d_Mod_readFresh_87 rfl (Nat.le_of_ble_eq_true rfl) (by decide) (by decide) (c_Mod_nextX h41 b hI43 s sZ sE (kn_call fh41 (kn_call fh5 sK rfl) rfl) p pZ pE (kn_call fh41 (kn_call fh5 pK rfl) rfl) g gZ gE (kn_call fh41 (kn_call fh5 gK rfl) rfl) k kZ kE (kn_call fh41 (kn_call fh5 kK rfl) rfl) v vZ vE (kn_call fh41 (kn_call fh5 vK rfl) rfl) o45 o45Z o45E o45K o46 o46Z o46E o46K (TP_fr f44 (fun _ => rfl) hy0) (by (first | decide +kernel | with_reducible assumption | omega))) (fun h50 p51 => ?_)
        obtain ⟨hI52, fh50, o54, o54Z, o54E, o54K, o55, o55Z, o55E, o55K, o56, o56Z, o56E, o56K, o57, o57Z, o57E, o57K, o58, o58Z, o58E, o58K, o59, o59Z, o59E, o59K, p51⟩ := p51
        have f53 : fr S_Mod_readFreshX_8 h h50 := fr_call f44 fh50 rfl
        have R60 : RM h50 T D := RM_fr fh50 rfl R47
        have g61 : 0 ≤ o54Z ∧ o54Z ≤ 160 := inv_at hI52 o54E o54K.symm rfl
        have g62 : 0 ≤ o55Z ∧ o55Z ≤ 160 := inv_at hI52 o55E o55K.symm rfl
        replace p51 := p51.resolve_right (fun q => by (first | decide +kernel | with_reducible assumption | omega))
        refine V_iload_n 3 d_Mod_readFresh_90 rfl rfl ?_
        exact V_iret rfl d_Mod_readFresh_91 ⟨z4, rfl, ⟨hI52, f53, o54, o54Z, o54E, o54K, o55, o55Z, o55E, o55K, o56, o56Z, o56E, o56K, o57, o57Z, o57E, o57K, o58, o58Z, o58E, o58K, o59, o59Z, o59E, o59K, ⟨(Or.inr (Or.inl (⟨by (first | decide +kernel | with_reducible assumption | omega), by (first | decide +kernel | with_reducible assumption | omega), by (first | decide +kernel | with_reducible assumption | omega), by (first | decide +kernel | with_reducible assumption | omega)⟩))), by (first | decide +kernel | with_reducible assumption | omega), by (first | decide +kernel | with_reducible assumption | omega), by (first | decide +kernel | with_reducible assumption | omega), by rw [z4E]; omega, by rw [z4E]; omega⟩⟩⟩
      ·
        exact absurd c48 (by (first | decide +kernel | with_reducible assumption | omega))
    ·
      replace g38 := g38.resolve_right (fun q => by (first | decide +kernel | with_reducible assumption | omega))
      refine V_iconst 1 d_Mod_readFresh_30 (by decide) ?_
      refine V_goto 35 d_Mod_readFresh_31 (by decide) ?_
      refine V_iconst 4 d_Mod_readFresh_35 (by decide) ?_
      refine N_callVV [.int 1, .int 4] [] cv_Mod_144 sk_116 rfl d_Mod_readFresh_36 rfl (Nat.le_of_ble_eq_true rfl) (by decide) (by decide) (c_Mod_needsX h5 hI7 1 1 tc_1 4 4 tc_4 g gZ gE (kn_call fh5 gK rfl) o9 o9Z o9E o9K o10 o10Z o10E o10K) (fun h64 p65 => ?_)
      obtain ⟨hI66, fh64, o68, o68Z, o68E, o68K, o69, o69Z, o69E, o69K, p65⟩ := p65
      have f67 : fr S_Mod_readFreshX_8 h h64 := fr_call f8 fh64 rfl
      have R70 : RM h64 T D := RM_fr fh64 rfl R11
      replace p65 := (p65.resolve_right (by (first | decide +kernel | with_reducible assumption | omega))).2
      refine V_aload_n 0 d_Mod_readFresh_39 rfl rfl ?_
      refine N_getK fa_Mod_102 sk_116 rfl d_Mod_readFresh_40 o68K ?_
      refine V_if_ne 86 o68E d_Mod_readFresh_43 (by decide) (fun c71 => ?_) (fun c71 => ?_)
      ·
        exact absurd c71 (by (first | decide +kernel | with_reducible assumption | omega))
      ·
        refine V_aload_n 0 d_Mod_readFresh_46 rfl rfl ?_
        refine V_getR fa_Mod_20 sk_116 rfl d_Mod_readFresh_47 ?_
        refine V_iload_n 1 d_Mod_readFresh_50 rfl rfl ?_
        refine V_iconst 4 d_Mod_readFresh_51 (by decide) ?_
        refine V_isubw d_Mod_readFresh_52 (fun z72 z72e => ?_)
        obtain rfl : z72 = 4 := z72e.trans (by decide)
        refine V_dup2 d_Mod_readFresh_53 rfl rfl ?_
        refine N_ialdK sk_120 tc_4 (by (first | decide +kernel | with_reducible assumption | omega)) d_Mod_readFresh_54 (kn_call fh64 (kn_call fh5 zK rfl) rfl) ?_
        refine V_iconst 1 d_Mod_readFresh_55 (by decide) ?_
        refine V_iload_n 3 d_Mod_readFresh_56 rfl rfl ?_
        refine N_ishl d_Mod_readFresh_57 (fun z74 z74Z z74E z74e => ?_)
        refine N_ior d_Mod_readFresh_58 (fun z75 z75Z z75E z75e => ?_)
        refine N_iast sk_120 tc_4 (by (first | decide +kernel | with_reducible assumption | omega)) d_Mod_readFresh_59 (fun h76 eh76 => ?_)
        have hI77 : Inv h76 := inv_full hI66 eh76 rfl
        have f78 : fr S_Mod_readFreshX_8 h h76 := fr_put f67 eh76 rfl
        refine V_aload_n 0 d_Mod_readFresh_60 rfl rfl ?_
        refine V_iload_n 1 d_Mod_readFresh_61 rfl rfl ?_
        refine V_bipush 8 d_Mod_readFresh_62 (by decide) ?_
        refine V_icmp_ge 79 tc_8 tc_8 d_Mod_readFresh_64 (by decide) (fun c80 => ?_) (fun c80 => ?_)
        ·
          refine V_aload_n 0 d_Mod_readFresh_79 rfl rfl ?_
          refine N_getK fa_Mod_78 sk_116 rfl d_Mod_readFresh_80 (kn_ne eh76 (kn_call fh64 (kn_call fh5 iK rfl) rfl) (by decide)) ?_
          refine N_putI fp_Mod_78 sk_116 rfl d_Mod_readFresh_83 (fun h81 eh81 => ?_)
          have hI82 : Inv h81 := inv_full hI77 eh81 rfl
          have f83 : fr S_Mod_readFreshX_8 h h81 := fr_put f78 eh81 rfl
          have R84 : RM h81 (x_upT T 5 (x_vl b p0)) D := RM_fresh (l := 5) R70 ⟨by decide, by decide⟩ eh76 (kn_call fh64 (kn_call fh5 zK rfl) rfl) (by (first | decide +kernel | with_reducible assumption | omega)) (z4E.trans (by (first | decide +kernel | with_reducible assumption | omega))) (by assumption) (by assumption) rfl eh81 iE ((congrArg Int32.toInt (kn_call fh64 (kn_call fh5 iK rfl) rfl)).trans iE) (Or.inr ⟨rfl, by (first | decide +kernel | with_reducible assumption | omega)⟩)
          refine V_aload_n 0 d_Mod_readFresh_86 rfl rfl ?_
          refine N_callVV [] [] cv_Mod_152 sk_116 rfl d_Mod_readFresh_87 rfl (Nat.le_of_ble_eq_true rfl) (by decide) (by decide) (c_Mod_nextX h81 b hI82 s sZ sE (kn_nei eh81 (kn_ne eh76 (kn_call fh64 (kn_call fh5 sK rfl) rfl) (by decide)) (by decide)) p pZ pE (kn_nei eh81 (kn_ne eh76 (kn_call fh64 (kn_call fh5 pK rfl) rfl) (by decide)) (by decide)) g gZ gE (kn_nei eh81 (kn_ne eh76 (kn_call fh64 (kn_call fh5 gK rfl) rfl) (by decide)) (by decide)) k kZ kE (kn_nei eh81 (kn_ne eh76 (kn_call fh64 (kn_call fh5 kK rfl) rfl) (by decide)) (by decide)) v vZ vE (kn_nei eh81 (kn_ne eh76 (kn_call fh64 (kn_call fh5 vK rfl) rfl) (by decide)) (by decide)) o68 o68Z o68E (kn_nei eh81 (kn_ne eh76 o68K (by decide)) (by decide)) o69 o69Z o69E (kn_nei eh81 (kn_ne eh76 o69K (by decide)) (by decide)) (TP_fr f83 (fun _ => rfl) hy0) (by (first | decide +kernel | with_reducible assumption | omega))) (fun h86 p87 => ?_)
          obtain ⟨hI88, fh86, o90, o90Z, o90E, o90K, o91, o91Z, o91E, o91K, o92, o92Z, o92E, o92K, o93, o93Z, o93E, o93K, o94, o94Z, o94E, o94K, o95, o95Z, o95E, o95K, p87⟩ := p87
          have f89 : fr S_Mod_readFreshX_8 h h86 := fr_call f83 fh86 rfl
          have R96 : RM h86 (x_upT T 5 (x_vl b p0)) D := RM_fr fh86 rfl R84
          have g97 : 0 ≤ o90Z ∧ o90Z ≤ 160 := inv_at hI88 o90E o90K.symm rfl
          have g98 : 0 ≤ o91Z ∧ o91Z ≤ 160 := inv_at hI88 o91E o91K.symm rfl
          replace p87 := p87.resolve_left (fun q => by (first | decide +kernel | with_reducible assumption | omega))
          refine V_iload_n 3 d_Mod_readFresh_90 rfl rfl ?_
          exact V_iret rfl d_Mod_readFresh_91 ⟨z4, rfl, ⟨hI88, f89, o90, o90Z, o90E, o90K, o91, o91Z, o91E, o91K, o92, o92Z, o92E, o92K, o93, o93Z, o93E, o93K, o94, o94Z, o94E, o94K, o95, o95Z, o95E, o95K, ⟨(Or.inr (Or.inr (⟨by (first | decide +kernel | with_reducible assumption | omega), by (first | decide +kernel | with_reducible assumption | omega), by rw [z4E]; omega, (if q9 : o94Z = 0 then Or.inr ⟨q9, by (first | decide +kernel | with_reducible assumption | omega), by (first | decide +kernel | with_reducible assumption | omega), by (first | decide +kernel | with_reducible assumption | omega), by (first | decide +kernel | with_reducible assumption | omega), by (first | decide +kernel | with_reducible assumption | omega), by (first | decide +kernel | with_reducible assumption | omega), by (first | decide +kernel | with_reducible assumption | omega), by (first | decide +kernel | with_reducible assumption | omega), by (first | decide +kernel | with_reducible assumption | omega), by (first | decide +kernel | with_reducible assumption | omega), by (first | decide +kernel | with_reducible assumption | omega)⟩ else Or.inl ⟨by (first | decide +kernel | with_reducible assumption | omega), by (first | decide +kernel | with_reducible assumption | omega), by (first | decide +kernel | with_reducible assumption | omega)⟩), R96⟩))), by (first | decide +kernel | with_reducible assumption | omega), by (first | decide +kernel | with_reducible assumption | omega), by (first | decide +kernel | with_reducible assumption | omega), by rw [z4E]; omega, by rw [z4E]; omega⟩⟩⟩
        ·
          exact absurd c80 (by decide)
end
section
def S_Mod_readCellOfX_4 : List (Nat × Option Nat) := [(116, some 16), (116, some 17), (116, some 18), (116, some 19), (116, some 20), (116, some 21), (119, none), (120, some 0), (116, some 13)]
abbrev q_Mod_readCellOfX_4 (h : Hp) (b : Int → Int) (T : Nat → Int → Int) (D : Nat → Int) (p0 : Int) (s : Int32) (sZ : Int) (p : Int32) (pZ : Int) (g : Int32) (gZ : Int) (k : Int32) (kZ : Int) (v : Int32) (vZ : Int) (w : Int32) (wZ : Int) (a : Int32) (aZ : Int) (z : Int32) (zZ : Int) (i : Int32) (iZ : Int) : Option Value → Hp → Prop := pVd (fun h' => Inv h' ∧ fr S_Mod_readCellOfX_4 h h' ∧ ∃ (q : Int32) (qZ : Int), q.toInt = qZ ∧ h'.1 116 16 = q ∧ ∃ (f : Int32) (fZ : Int), f.toInt = fZ ∧ h'.1 116 17 = f ∧ ∃ (m : Int32) (mZ : Int), m.toInt = mZ ∧ h'.1 116 18 = m ∧ ∃ (x : Int32) (xZ : Int), x.toInt = xZ ∧ h'.1 116 19 = x ∧ ∃ (u : Int32) (uZ : Int), u.toInt = uZ ∧ h'.1 116 20 = u ∧ ∃ (y : Int32) (yZ : Int), y.toInt = yZ ∧ h'.1 116 21 = y ∧ ((uZ ≠ 0 ∧ x_l1 b T p0 = (uZ, yZ) ∨ uZ = 0 ∧ x_l1 b T p0 = x_sq (x_cS b (x_en b (x_en b p0))) (x_fr b (x_en b (x_en b p0))) (0, x_en b (x_en b (x_en b p0))) ∧ (fZ = x_fr b (x_en b (x_en b p0)) ∧ mZ = x_kd b (x_en b (x_en b p0)) ∧ mZ ≠ 4 ∧ 0 ≤ mZ ∧ mZ ≤ 3 ∧ qZ = x_en b (x_en b (x_en b p0)) ∧ (mZ ≠ 2 ∨ xZ = x_vl b (x_en b (x_en b p0)) ∧ 0 ≤ xZ ∧ xZ ≤ 99) ∧ (x_en b (x_en b p0)) ≤ fZ ∧ fZ ≤ qZ ∧ qZ ≤ sZ ∧ (mZ = 0 ∨ fZ < qZ)) ∧ RM h' (x_upT T 1 (x_vl b p0)) (x_up D (x_vl b p0) (x_vl b (x_en b p0)))) ∧ 0 ≤ qZ ∧ qZ ≤ sZ ∧ 0 ≤ uZ))
set_option maxRecDepth 100000 in
theorem c_Mod_readCellOfX_4 (h : Hp) (b : Int → Int) (T : Nat → Int → Int) (D : Nat → Int) (p0 : Int) (hI : Inv h) (s : Int32) (sZ : Int) (sE : s.toInt = sZ) (sK : h.1 116 15 = s) (p : Int32) (pZ : Int) (pE : p.toInt = pZ) (pK : h.1 116 16 = p) (g : Int32) (gZ : Int) (gE : g.toInt = gZ) (gK : h.1 116 17 = g) (k : Int32) (kZ : Int) (kE : k.toInt = kZ) (kK : h.1 116 18 = k) (v : Int32) (vZ : Int) (vE : v.toInt = vZ) (vK : h.1 116 19 = v) (w : Int32) (wZ : Int) (wE : w.toInt = wZ) (wK : h.1 116 20 = w) (a : Int32) (aZ : Int) (aE : a.toInt = aZ) (aK : h.1 116 21 = a) (z : Int32) (zZ : Int) (zE : z.toInt = zZ) (zK : h.1 120 0 = z) (i : Int32) (iZ : Int) (iE : i.toInt = iZ) (iK : h.1 116 13 = i) (hy0 : TP h 121 sZ b) (hy1 : 0 ≤ pZ ∧ pZ ≤ sZ ∧ wZ = 0) (hy2 : gZ = x_fr b p0 ∧ kZ = x_kd b p0 ∧ kZ ≠ 4 ∧ 0 ≤ kZ ∧ kZ ≤ 3 ∧ pZ = x_en b p0 ∧ (kZ ≠ 2 ∨ vZ = x_vl b p0 ∧ 0 ≤ vZ ∧ vZ ≤ 99) ∧ p0 ≤ gZ ∧ gZ ≤ pZ ∧ pZ ≤ sZ ∧ (kZ = 0 ∨ gZ < pZ)) (hy3 : RM h T D) : Ct y_Mod_readCellOf b_Mod_readCellOf 5 none 3 70 [.ref 116, .int 4] h (q_Mod_readCellOfX_4 h b T D p0 s sZ p pZ g gZ k kZ v vZ w wZ a aZ z zZ i iZ) := by
  refine ct_ow R_Mod [some (.ref 116), some (.int 4), none, none, none] rfl (by decide) rfl (Nat.le_of_ble_eq_true rfl) ?_
  have f0 : fr S_Mod_readCellOfX_4 h h := fr_rf
  have g1 : 0 ≤ sZ ∧ sZ ≤ 160 := inv_at hI sE sK.symm rfl
  have g2 : 0 ≤ pZ ∧ pZ ≤ 160 := inv_at hI pE pK.symm rfl
  have g3 : 0 ≤ gZ ∧ gZ ≤ 160 := inv_at hI gE gK.symm rfl
  refine V_aload_n 0 d_Mod_readCellOf_0 rfl rfl ?_
  refine V_iload_n 1 d_Mod_readCellOf_1 rfl rfl ?_
  refine V_bipush 15 d_Mod_readCellOf_2 (by decide) ?_
  refine N_callVI [.int 4, .int 15] [] cv_Mod_161 sk_116 rfl d_Mod_readCellOf_4 rfl (Nat.le_of_ble_eq_true rfl) (by decide) (by decide) (c_Mod_readFreshX_4 h b T D p0 hI s sZ sE sK p pZ pE pK g gZ gE gK k kZ kE kK v vZ vE vK w wZ wE wK a aZ aE aK z zZ zE zK i iZ iE iK (TP_fr f0 (fun _ => rfl) hy0) (by (first | decide +kernel | with_reducible assumption | omega)) ⟨by (first | decide +kernel | with_reducible assumption | omega), by (first | decide +kernel | with_reducible assumption | omega), by (first | decide +kernel | with_reducible assumption | omega), by (first | decide +kernel | with_reducible assumption | omega), by (first | decide +kernel | with_reducible assumption | omega), by (first | decide +kernel | with_reducible assumption | omega), by (first | decide +kernel | with_reducible assumption | omega), by (first | decide +kernel | with_reducible assumption | omega), by (first | decide +kernel | with_reducible assumption | omega), by (first | decide +kernel | with_reducible assumption | omega), by (first | decide +kernel | with_reducible assumption | omega)⟩ hy3) (fun z4 h5 z4Z z4E p6 => ?_)
  obtain ⟨hI7, fh5, o9, o9Z, o9E, o9K, o10, o10Z, o10E, o10K, o11, o11Z, o11E, o11K, o12, o12Z, o12E, o12K, o13, o13Z, o13E, o13K, o14, o14Z, o14E, o14K, p6⟩ := p6
  have f8 : fr S_Mod_readCellOfX_4 h h5 := fr_call f0 fh5 rfl
  have g15 : 0 ≤ o9Z ∧ o9Z ≤ 160 := inv_at hI7 o9E o9K.symm rfl
  have g16 : 0 ≤ o10Z ∧ o10Z ≤ 160 := inv_at hI7 o10E o10K.symm rfl
  refine V_istore_n 2 [some (.ref 116), some (.int 4), some (.int z4), none, none] d_Mod_readCellOf_7 rfl (by decide) rfl rfl ?_
  rcases (dj4 _ _ _ : o13Z ≠ 0 ∧ x_cN b p0 0 15 ≠ 0 ∨ o13Z ≠ 0 ∧ x_cN b p0 0 15 = 0 ∧ x_c4 (T 1 (x_vl b p0)) ≠ 0 ∨ o13Z ≠ 0 ∧ x_cN b p0 0 15 = 0 ∧ x_c4 (T 1 (x_vl b p0)) = 0 ∨ o13Z = 0) with c17 | c17 | c17 | c17
  ·
    replace p6 := And.intro (p6.1.resolve_right (fun q => by (first | decide +kernel | with_reducible assumption | omega))) p6.2
    have g18 := x_cN_s b p0 0 15
    refine V_iload_n 1 d_Mod_readCellOf_8 rfl rfl ?_
    refine V_iconst 5 d_Mod_readCellOf_9 (by decide) ?_
    refine V_icmp_ne 43 tc_4 tc_5 d_Mod_readCellOf_10 (by decide) (fun c19 => ?_) (fun c19 => ?_)
    ·
      refine V_aload_n 0 d_Mod_readCellOf_43 rfl rfl ?_
      refine V_iload_n 1 d_Mod_readCellOf_44 rfl rfl ?_
      refine V_iconst 4 d_Mod_readCellOf_45 (by decide) ?_
      refine V_icmp_ne 53 tc_4 tc_4 d_Mod_readCellOf_46 (by decide) (fun c20 => ?_) (fun c20 => ?_)
      ·
        exact absurd c20 (by decide)
      ·
        refine V_iconst 1 d_Mod_readCellOf_49 (by decide) ?_
        refine V_goto 54 d_Mod_readCellOf_50 (by decide) ?_
        refine V_iload_n 1 d_Mod_readCellOf_54 rfl rfl ?_
        refine V_iconst 4 d_Mod_readCellOf_55 (by decide) ?_
        refine V_icmp_ne 64 tc_4 tc_4 d_Mod_readCellOf_56 (by decide) (fun c21 => ?_) (fun c21 => ?_)
        ·
          exact absurd c21 (by decide)
        ·
          refine V_bipush 9 d_Mod_readCellOf_59 (by decide) ?_
          refine V_goto 76 d_Mod_readCellOf_61 (by decide) ?_
          refine N_callVI [.int 1, .int 9] [] cv_Mod_158 sk_116 rfl d_Mod_readCellOf_76 rfl (Nat.le_of_ble_eq_true rfl) (by decide) (by decide) (c_Mod_readNumberX h5 b (x_en b p0) hI7 1 1 tc_1 9 9 tc_9 s sZ sE (kn_call fh5 sK rfl) o9 o9Z o9E o9K o10 o10Z o10E o10K o11 o11Z o11E o11K o12 o12Z o12E o12K o13 o13Z o13E o13K o14 o14Z o14E o14K (TP_fr f8 (fun _ => rfl) hy0) (by (first | decide +kernel | with_reducible assumption | omega)) (Or.inl (by (first | decide +kernel | with_reducible assumption | omega)))) (fun z22 h23 z22Z z22E p24 => ?_)
          obtain ⟨hI25, fh23, o27, o27Z, o27E, o27K, o28, o28Z, o28E, o28K, o29, o29Z, o29E, o29K, o30, o30Z, o30E, o30K, o31, o31Z, o31E, o31K, o32, o32Z, o32E, o32K, p24⟩ := p24
          have f26 : fr S_Mod_readCellOfX_4 h h23 := fr_call f8 fh23 rfl
          have g33 : 0 ≤ o27Z ∧ o27Z ≤ 160 := inv_at hI25 o27E o27K.symm rfl
          have g34 : 0 ≤ o28Z ∧ o28Z ≤ 160 := inv_at hI25 o28E o28K.symm rfl
          refine V_istore_n 3 [some (.ref 116), some (.int 4), some (.int z4), some (.int z22), none] d_Mod_readCellOf_79 rfl (by decide) rfl rfl ?_
          refine V_iload_n 1 d_Mod_readCellOf_80 rfl rfl ?_
          refine V_iconst 4 d_Mod_readCellOf_81 (by decide) ?_
          refine V_icmp_ne 89 tc_4 tc_4 d_Mod_readCellOf_82 (by decide) (fun c35 => ?_) (fun c35 => ?_)
          ·
            exact absurd c35 (by decide)
          ·
            refine V_iconst 0 d_Mod_readCellOf_85 (by decide) ?_
            refine V_goto 102 d_Mod_readCellOf_86 (by decide) ?_
            refine V_istore 4 [some (.ref 116), some (.int 4), some (.int z4), some (.int z22), some (.int 0)] d_Mod_readCellOf_102 (by decide) rfl rfl ?_
            refine V_aload_n 0 d_Mod_readCellOf_104 rfl rfl ?_
            refine V_getR fa_Mod_17 sk_116 rfl d_Mod_readCellOf_105 ?_
            refine V_iload d_Mod_readCellOf_108 rfl ?_
            refine V_iload_n 2 d_Mod_readCellOf_110 rfl rfl ?_
            refine V_iadd tc_0 z4E (by (first | decide +kernel | with_reducible assumption | omega)) d_Mod_readCellOf_111 (fun z36 z36e z36E => ?_)
            refine V_aload_n 0 d_Mod_readCellOf_112 rfl rfl ?_
            refine N_getK fa_Mod_102 sk_116 rfl d_Mod_readCellOf_113 o31K ?_
            refine V_if_ne 123 o31E d_Mod_readCellOf_116 (by decide) (fun c37 => ?_) (fun c37 => ?_)
            ·
              refine V_aload_n 0 d_Mod_readCellOf_123 rfl rfl ?_
              refine V_getR fa_Mod_17 sk_116 rfl d_Mod_readCellOf_124 ?_
              refine V_iload d_Mod_readCellOf_127 rfl ?_
              refine V_iload_n 2 d_Mod_readCellOf_129 rfl rfl ?_
              refine V_iadd tc_0 z4E (by (first | decide +kernel | with_reducible assumption | omega)) d_Mod_readCellOf_130 (fun z38 z38e z38E => ?_)
              refine N_iald sk_119 z38E (by (first | decide +kernel | with_reducible assumption | omega)) d_Mod_readCellOf_131 (fun z39 z39Z z39E z39e => ?_)
              refine N_iast sk_119 z36E (by (first | decide +kernel | with_reducible assumption | omega)) d_Mod_readCellOf_132 (fun h40 eh40 => ?_)
              have hI41 : Inv h40 := inv_full hI25 eh40 (st_lo (by (first | decide +kernel | with_reducible assumption | omega)))
              have f42 : fr S_Mod_readCellOfX_4 h h40 := fr_put f26 eh40 rfl
              exact V_vret rfl d_Mod_readCellOf_133 ⟨rfl, ⟨hI41, f42, o27, o27Z, o27E, (kn_ne eh40 o27K (by decide)), o28, o28Z, o28E, (kn_ne eh40 o28K (by decide)), o29, o29Z, o29E, (kn_ne eh40 o29K (by decide)), o30, o30Z, o30E, (kn_ne eh40 o30K (by decide)), o31, o31Z, o31E, (kn_ne eh40 o31K (by decide)), o32, o32Z, o32E, (kn_ne eh40 o32K (by decide)), ⟨Or.inl ⟨by (first | decide +kernel | with_reducible assumption | omega), (show x_l1 b T p0 = (x_cN b p0 0 15, x_fr b p0) from by unfold x_l1; rw [x_sq_y (c := x_cN b p0 0 15) (by (first | decide +kernel | with_reducible assumption | omega))]).trans (pq (by (first | decide +kernel | with_reducible assumption | omega)) (by (first | decide +kernel | with_reducible assumption | omega)))⟩, by (first | decide +kernel | with_reducible assumption | omega), by (first | decide +kernel | with_reducible assumption | omega), by (first | decide +kernel | with_reducible assumption | omega)⟩⟩⟩
            ·
              exact absurd c37 (by (first | decide +kernel | with_reducible assumption | omega))
    ·
      exact absurd c19 (by decide)
  ·
    replace p6 := And.intro ((p6.1.resolve_left (fun q => by (first | decide +kernel | with_reducible assumption | omega))).resolve_right (fun q => by (first | decide +kernel | with_reducible assumption | omega))) p6.2
    have g43 := x_c4_s (T 1 (x_vl b p0))
    refine V_iload_n 1 d_Mod_readCellOf_8 rfl rfl ?_
    refine V_iconst 5 d_Mod_readCellOf_9 (by decide) ?_
    refine V_icmp_ne 43 tc_4 tc_5 d_Mod_readCellOf_10 (by decide) (fun c44 => ?_) (fun c44 => ?_)
    ·
      refine V_aload_n 0 d_Mod_readCellOf_43 rfl rfl ?_
      refine V_iload_n 1 d_Mod_readCellOf_44 rfl rfl ?_
      refine V_iconst 4 d_Mod_readCellOf_45 (by decide) ?_
      refine V_icmp_ne 53 tc_4 tc_4 d_Mod_readCellOf_46 (by decide) (fun c45 => ?_) (fun c45 => ?_)
      ·
        exact absurd c45 (by decide)
      ·
        refine V_iconst 1 d_Mod_readCellOf_49 (by decide) ?_
        refine V_goto 54 d_Mod_readCellOf_50 (by decide) ?_
        refine V_iload_n 1 d_Mod_readCellOf_54 rfl rfl ?_
        refine V_iconst 4 d_Mod_readCellOf_55 (by decide) ?_
        refine V_icmp_ne 64 tc_4 tc_4 d_Mod_readCellOf_56 (by decide) (fun c46 => ?_) (fun c46 => ?_)
        ·
          exact absurd c46 (by decide)
        ·
          refine V_bipush 9 d_Mod_readCellOf_59 (by decide) ?_
          refine V_goto 76 d_Mod_readCellOf_61 (by decide) ?_
          refine N_callVI [.int 1, .int 9] [] cv_Mod_158 sk_116 rfl d_Mod_readCellOf_76 rfl (Nat.le_of_ble_eq_true rfl) (by decide) (by decide) (c_Mod_readNumberX h5 b (x_en b p0) hI7 1 1 tc_1 9 9 tc_9 s sZ sE (kn_call fh5 sK rfl) o9 o9Z o9E o9K o10 o10Z o10E o10K o11 o11Z o11E o11K o12 o12Z o12E o12K o13 o13Z o13E o13K o14 o14Z o14E o14K (TP_fr f8 (fun _ => rfl) hy0) (by (first | decide +kernel | with_reducible assumption | omega)) (Or.inl (by (first | decide +kernel | with_reducible assumption | omega)))) (fun z47 h48 z47Z z47E p49 => ?_)
          obtain ⟨hI50, fh48, o52, o52Z, o52E, o52K, o53, o53Z, o53E, o53K, o54, o54Z, o54E, o54K, o55, o55Z, o55E, o55K, o56, o56Z, o56E, o56K, o57, o57Z, o57E, o57K, p49⟩ := p49
          have f51 : fr S_Mod_readCellOfX_4 h h48 := fr_call f8 fh48 rfl
          have g58 : 0 ≤ o52Z ∧ o52Z ≤ 160 := inv_at hI50 o52E o52K.symm rfl
          have g59 : 0 ≤ o53Z ∧ o53Z ≤ 160 := inv_at hI50 o53E o53K.symm rfl
          refine V_istore_n 3 [some (.ref 116), some (.int 4), some (.int z4), some (.int z47), none] d_Mod_readCellOf_79 rfl (by decide) rfl rfl ?_
          refine V_iload_n 1 d_Mod_readCellOf_80 rfl rfl ?_
          refine V_iconst 4 d_Mod_readCellOf_81 (by decide) ?_
          refine V_icmp_ne 89 tc_4 tc_4 d_Mod_readCellOf_82 (by decide) (fun c60 => ?_) (fun c60 => ?_)
          ·
            exact absurd c60 (by decide)
          ·
            refine V_iconst 0 d_Mod_readCellOf_85 (by decide) ?_
            refine V_goto 102 d_Mod_readCellOf_86 (by decide) ?_
            refine V_istore 4 [some (.ref 116), some (.int 4), some (.int z4), some (.int z47), some (.int 0)] d_Mod_readCellOf_102 (by decide) rfl rfl ?_
            refine V_aload_n 0 d_Mod_readCellOf_104 rfl rfl ?_
            refine V_getR fa_Mod_17 sk_116 rfl d_Mod_readCellOf_105 ?_
            refine V_iload d_Mod_readCellOf_108 rfl ?_
            refine V_iload_n 2 d_Mod_readCellOf_110 rfl rfl ?_
            refine V_iadd tc_0 z4E (by (first | decide +kernel | with_reducible assumption | omega)) d_Mod_readCellOf_111 (fun z61 z61e z61E => ?_)
            refine V_aload_n 0 d_Mod_readCellOf_112 rfl rfl ?_
            refine N_getK fa_Mod_102 sk_116 rfl d_Mod_readCellOf_113 o56K ?_
            refine V_if_ne 123 o56E d_Mod_readCellOf_116 (by decide) (fun c62 => ?_) (fun c62 => ?_)
            ·
              refine V_aload_n 0 d_Mod_readCellOf_123 rfl rfl ?_
              refine V_getR fa_Mod_17 sk_116 rfl d_Mod_readCellOf_124 ?_
              refine V_iload d_Mod_readCellOf_127 rfl ?_
              refine V_iload_n 2 d_Mod_readCellOf_129 rfl rfl ?_
              refine V_iadd tc_0 z4E (by (first | decide +kernel | with_reducible assumption | omega)) d_Mod_readCellOf_130 (fun z63 z63e z63E => ?_)
              refine N_iald sk_119 z63E (by (first | decide +kernel | with_reducible assumption | omega)) d_Mod_readCellOf_131 (fun z64 z64Z z64E z64e => ?_)
              refine N_iast sk_119 z61E (by (first | decide +kernel | with_reducible assumption | omega)) d_Mod_readCellOf_132 (fun h65 eh65 => ?_)
              have hI66 : Inv h65 := inv_full hI50 eh65 (st_lo (by (first | decide +kernel | with_reducible assumption | omega)))
              have f67 : fr S_Mod_readCellOfX_4 h h65 := fr_put f51 eh65 rfl
              exact V_vret rfl d_Mod_readCellOf_133 ⟨rfl, ⟨hI66, f67, o52, o52Z, o52E, (kn_ne eh65 o52K (by decide)), o53, o53Z, o53E, (kn_ne eh65 o53K (by decide)), o54, o54Z, o54E, (kn_ne eh65 o54K (by decide)), o55, o55Z, o55E, (kn_ne eh65 o55K (by decide)), o56, o56Z, o56E, (kn_ne eh65 o56K (by decide)), o57, o57Z, o57E, (kn_ne eh65 o57K (by decide)), ⟨Or.inl ⟨by (first | decide +kernel | with_reducible assumption | omega), (show x_l1 b T p0 = (x_c4 (T 1 (x_vl b p0)), x_fr b p0) from by unfold x_l1; rw [x_sq_n (c := x_cN b p0 0 15) (by (first | decide +kernel | with_reducible assumption | omega)), x_sq_y (c := x_c4 (T 1 (x_vl b p0))) (by (first | decide +kernel | with_reducible assumption | omega))]).trans (pq (by (first | decide +kernel | with_reducible assumption | omega)) (by (first | decide +kernel | with_reducible assumption | omega)))⟩, by (first | decide +kernel | with_reducible assumption | omega), by (first | decide +kernel | with_reducible assumption | omega), by (first | decide +kernel | with_reducible assumption | omega)⟩⟩⟩
            ·
              exact absurd c62 (by (first | decide +kernel | with_reducible assumption | omega))
    ·
      exact absurd c44 (by decide)
  ·
    replace p6 := And.intro (((p6.1.resolve_left (fun q => by (first | decide +kernel | with_reducible assumption | omega))).resolve_left (fun q => by (first | decide +kernel | with_reducible assumption | omega))).2.2.2.1.resolve_right (fun q => by (first | decide +kernel | with_reducible assumption | omega))) p6.2
    have g68 := x_cN_s b (x_en b p0) 1 9
    refine V_iload_n 1 d_Mod_readCellOf_8 rfl rfl ?_
    refine V_iconst 5 d_Mod_readCellOf_9 (by decide) ?_
    refine V_icmp_ne 43 tc_4 tc_5 d_Mod_readCellOf_10 (by decide) (fun c69 => ?_) (fun c69 => ?_)
    ·
      refine V_aload_n 0 d_Mod_readCellOf_43 rfl rfl ?_
      refine V_iload_n 1 d_Mod_readCellOf_44 rfl rfl ?_
      refine V_iconst 4 d_Mod_readCellOf_45 (by decide) ?_
      refine V_icmp_ne 53 tc_4 tc_4 d_Mod_readCellOf_46 (by decide) (fun c70 => ?_) (fun c70 => ?_)
      ·
        exact absurd c70 (by decide)
      ·
        refine V_iconst 1 d_Mod_readCellOf_49 (by decide) ?_
        refine V_goto 54 d_Mod_readCellOf_50 (by decide) ?_
        refine V_iload_n 1 d_Mod_readCellOf_54 rfl rfl ?_
        refine V_iconst 4 d_Mod_readCellOf_55 (by decide) ?_
        refine V_icmp_ne 64 tc_4 tc_4 d_Mod_readCellOf_56 (by decide) (fun c71 => ?_) (fun c71 => ?_)
        ·
          exact absurd c71 (by decide)
        ·
          refine V_bipush 9 d_Mod_readCellOf_59 (by decide) ?_
          refine V_goto 76 d_Mod_readCellOf_61 (by decide) ?_
          refine N_callVI [.int 1, .int 9] [] cv_Mod_158 sk_116 rfl d_Mod_readCellOf_76 rfl (Nat.le_of_ble_eq_true rfl) (by decide) (by decide) (c_Mod_readNumberX h5 b (x_en b p0) hI7 1 1 tc_1 9 9 tc_9 s sZ sE (kn_call fh5 sK rfl) o9 o9Z o9E o9K o10 o10Z o10E o10K o11 o11Z o11E o11K o12 o12Z o12E o12K o13 o13Z o13E o13K o14 o14Z o14E o14K (TP_fr f8 (fun _ => rfl) hy0) (by (first | decide +kernel | with_reducible assumption | omega)) (Or.inl (by (first | decide +kernel | with_reducible assumption | omega)))) (fun z72 h73 z72Z z72E p74 => ?_)
          obtain ⟨hI75, fh73, o77, o77Z, o77E, o77K, o78, o78Z, o78E, o78K, o79, o79Z, o79E, o79K, o80, o80Z, o80E, o80K, o81, o81Z, o81E, o81K, o82, o82Z, o82E, o82K, p74⟩ := p74
          have f76 : fr S_Mod_readCellOfX_4 h h73 := fr_call f8 fh73 rfl
          have g83 : 0 ≤ o77Z ∧ o77Z ≤ 160 := inv_at hI75 o77E o77K.symm rfl
          have g84 : 0 ≤ o78Z ∧ o78Z ≤ 160 := inv_at hI75 o78E o78K.symm rfl
          refine V_istore_n 3 [some (.ref 116), some (.int 4), some (.int z4), some (.int z72), none] d_Mod_readCellOf_79 rfl (by decide) rfl rfl ?_
          refine V_iload_n 1 d_Mod_readCellOf_80 rfl rfl ?_
          refine V_iconst 4 d_Mod_readCellOf_81 (by decide) ?_
          refine V_icmp_ne 89 tc_4 tc_4 d_Mod_readCellOf_82 (by decide) (fun c85 => ?_) (fun c85 => ?_)
          ·
            exact absurd c85 (by decide)
          ·
            refine V_iconst 0 d_Mod_readCellOf_85 (by decide) ?_
            refine V_goto 102 d_Mod_readCellOf_86 (by decide) ?_
            refine V_istore 4 [some (.ref 116), some (.int 4), some (.int z4), some (.int z72), some (.int 0)] d_Mod_readCellOf_102 (by decide) rfl rfl ?_
            refine V_aload_n 0 d_Mod_readCellOf_104 rfl rfl ?_
            refine V_getR fa_Mod_17 sk_116 rfl d_Mod_readCellOf_105 ?_
            refine V_iload d_Mod_readCellOf_108 rfl ?_
            refine V_iload_n 2 d_Mod_readCellOf_110 rfl rfl ?_
            refine V_iadd tc_0 z4E (by (first | decide +kernel | with_reducible assumption | omega)) d_Mod_readCellOf_111 (fun z86 z86e z86E => ?_)
            refine V_aload_n 0 d_Mod_readCellOf_112 rfl rfl ?_
            refine N_getK fa_Mod_102 sk_116 rfl d_Mod_readCellOf_113 o81K ?_
            refine V_if_ne 123 o81E d_Mod_readCellOf_116 (by decide) (fun c87 => ?_) (fun c87 => ?_)
            ·
              refine V_aload_n 0 d_Mod_readCellOf_123 rfl rfl ?_
              refine V_getR fa_Mod_17 sk_116 rfl d_Mod_readCellOf_124 ?_
              refine V_iload d_Mod_readCellOf_127 rfl ?_
              refine V_iload_n 2 d_Mod_readCellOf_129 rfl rfl ?_
              refine V_iadd tc_0 z4E (by (first | decide +kernel | with_reducible assumption | omega)) d_Mod_readCellOf_130 (fun z88 z88e z88E => ?_)
              refine N_iald sk_119 z88E (by (first | decide +kernel | with_reducible assumption | omega)) d_Mod_readCellOf_131 (fun z89 z89Z z89E z89e => ?_)
              refine N_iast sk_119 z86E (by (first | decide +kernel | with_reducible assumption | omega)) d_Mod_readCellOf_132 (fun h90 eh90 => ?_)
              have hI91 : Inv h90 := inv_full hI75 eh90 (st_lo (by (first | decide +kernel | with_reducible assumption | omega)))
              have f92 : fr S_Mod_readCellOfX_4 h h90 := fr_put f76 eh90 rfl
              exact V_vret rfl d_Mod_readCellOf_133 ⟨rfl, ⟨hI91, f92, o77, o77Z, o77E, (kn_ne eh90 o77K (by decide)), o78, o78Z, o78E, (kn_ne eh90 o78K (by decide)), o79, o79Z, o79E, (kn_ne eh90 o79K (by decide)), o80, o80Z, o80E, (kn_ne eh90 o80K (by decide)), o81, o81Z, o81E, (kn_ne eh90 o81K (by decide)), o82, o82Z, o82E, (kn_ne eh90 o82K (by decide)), ⟨Or.inl ⟨by (first | decide +kernel | with_reducible assumption | omega), (show x_l1 b T p0 = (x_cN b (x_en b p0) 1 9, x_fr b (x_en b p0)) from by unfold x_l1; rw [x_sq_n (c := x_cN b p0 0 15) (by (first | decide +kernel | with_reducible assumption | omega)), x_sq_n (c := x_c4 (T 1 (x_vl b p0))) (by (first | decide +kernel | with_reducible assumption | omega)), x_sq_y (c := x_cN b (x_en b p0) 1 9) (by (first | decide +kernel | with_reducible assumption | omega))]).trans (pq (by (first | decide +kernel | with_reducible assumption | omega)) (by (first | decide +kernel | with_reducible assumption | omega)))⟩, by (first | decide +kernel | with_reducible assumption | omega), by (first | decide +kernel | with_reducible assumption | omega), by (first | decide +kernel | with_reducible assumption | omega)⟩⟩⟩
            ·
              exact absurd c87 (by (first | decide +kernel | with_reducible assumption | omega))
    ·
      exact absurd c69 (by decide)
  ·
    obtain ⟨p61, p62, p63, p64, p6R⟩ := ((p6.1.resolve_left (fun q => by (first | decide +kernel | with_reducible assumption | omega))).resolve_left (fun q => by (first | decide +kernel | with_reducible assumption | omega)))
    replace p6 := And.intro (p64.resolve_left (fun q => by (first | decide +kernel | with_reducible assumption | omega))) p6.2
    clear p64
    refine V_iload_n 1 d_Mod_readCellOf_8 rfl rfl ?_
    refine V_iconst 5 d_Mod_readCellOf_9 (by decide) ?_
    refine V_icmp_ne 43 tc_4 tc_5 d_Mod_readCellOf_10 (by decide) (fun c93 => ?_) (fun c93 => ?_)
    ·
      refine V_aload_n 0 d_Mod_readCellOf_43 rfl rfl ?_
      refine V_iload_n 1 d_Mod_readCellOf_44 rfl rfl ?_
      refine V_iconst 4 d_Mod_readCellOf_45 (by decide) ?_
      refine V_icmp_ne 53 tc_4 tc_4 d_Mod_readCellOf_46 (by decide) (fun c94 => ?_) (fun c94 => ?_)
      ·
        exact absurd c94 (by decide)
      ·
        refine V_iconst 1 d_Mod_readCellOf_49 (by decide) ?_
        refine V_goto 54 d_Mod_readCellOf_50 (by decide) ?_
        refine V_iload_n 1 d_Mod_readCellOf_54 rfl rfl ?_
        refine V_iconst 4 d_Mod_readCellOf_55 (by decide) ?_
        refine V_icmp_ne 64 tc_4 tc_4 d_Mod_readCellOf_56 (by decide) (fun c95 => ?_) (fun c95 => ?_)
        ·
          exact absurd c95 (by decide)
        ·
          refine V_bipush 9 d_Mod_readCellOf_59 (by decide) ?_
          refine V_goto 76 d_Mod_readCellOf_61 (by decide) ?_
          refine N_callVI [.int 1, .int 9] [] cv_Mod_158 sk_116 rfl d_Mod_readCellOf_76 rfl (Nat.le_of_ble_eq_true rfl) (by decide) (by decide) (c_Mod_readNumberX h5 b (x_en b p0) hI7 1 1 tc_1 9 9 tc_9 s sZ sE (kn_call fh5 sK rfl) o9 o9Z o9E o9K o10 o10Z o10E o10K o11 o11Z o11E o11K o12 o12Z o12E o12K o13 o13Z o13E o13K o14 o14Z o14E o14K (TP_fr f8 (fun _ => rfl) hy0) (by (first | decide +kernel | with_reducible assumption | omega)) (Or.inr ⟨by (first | decide +kernel | with_reducible assumption | omega), by (first | decide +kernel | with_reducible assumption | omega), by (first | decide +kernel | with_reducible assumption | omega), by (first | decide +kernel | with_reducible assumption | omega), by (first | decide +kernel | with_reducible assumption | omega), by (first | decide +kernel | with_reducible assumption | omega), by (first | decide +kernel | with_reducible assumption | omega), by (first | decide +kernel | with_reducible assumption | omega), by (first | decide +kernel | with_reducible assumption | omega), by (first | decide +kernel | with_reducible assumption | omega), by (first | decide +kernel | with_reducible assumption | omega)⟩)) (fun z96 h97 z96Z z96E p98 => ?_)
          obtain ⟨hI99, fh97, o101, o101Z, o101E, o101K, o102, o102Z, o102E, o102K, o103, o103Z, o103E, o103K, o104, o104Z, o104E, o104K, o105, o105Z, o105E, o105K, o106, o106Z, o106E, o106K, p98⟩ := p98
          have f100 : fr S_Mod_readCellOfX_4 h h97 := fr_call f8 fh97 rfl
          have R107 : RM h97 (x_upT T 1 (x_vl b p0)) D := RM_fr fh97 rfl p6R
          have g108 : 0 ≤ o101Z ∧ o101Z ≤ 160 := inv_at hI99 o101E o101K.symm rfl
          have g109 : 0 ≤ o102Z ∧ o102Z ≤ 160 := inv_at hI99 o102E o102K.symm rfl
          rcases (dj3 _ _ : o105Z ≠ 0 ∧ x_cN b (x_en b p0) 1 9 ≠ 0 ∨ o105Z ≠ 0 ∧ x_cN b (x_en b p0) 1 9 = 0 ∨ o105Z = 0) with c110 | c110 | c110
          ·
            replace p98 := And.intro ((p98.1.resolve_left (fun q => by (first | decide +kernel | with_reducible assumption | omega))).resolve_right (fun q => by (first | decide +kernel | with_reducible assumption | omega))) p98.2
            have g111 := x_cN_s b (x_en b p0) 1 9
            have g112 := x_cS_s b (x_en b (x_en b p0))
            refine V_istore_n 3 [some (.ref 116), some (.int 4), some (.int z4), some (.int z96), none] d_Mod_readCellOf_79 rfl (by decide) rfl rfl ?_
            refine V_iload_n 1 d_Mod_readCellOf_80 rfl rfl ?_
            refine V_iconst 4 d_Mod_readCellOf_81 (by decide) ?_
            refine V_icmp_ne 89 tc_4 tc_4 d_Mod_readCellOf_82 (by decide) (fun c113 => ?_) (fun c113 => ?_)
            ·
              exact absurd c113 (by decide)
            ·
              refine V_iconst 0 d_Mod_readCellOf_85 (by decide) ?_
              refine V_goto 102 d_Mod_readCellOf_86 (by decide) ?_
              refine V_istore 4 [some (.ref 116), some (.int 4), some (.int z4), some (.int z96), some (.int 0)] d_Mod_readCellOf_102 (by decide) rfl rfl ?_
              refine V_aload_n 0 d_Mod_readCellOf_104 rfl rfl ?_
              refine V_getR fa_Mod_17 sk_116 rfl d_Mod_readCellOf_105 ?_
              refine V_iload d_Mod_readCellOf_108 rfl ?_
              refine V_iload_n 2 d_Mod_readCellOf_110 rfl rfl ?_
              refine V_iadd tc_0 z4E (by (first | decide +kernel | with_reducible assumption | omega)) d_Mod_readCellOf_111 (fun z114 z114e z114E => ?_)
              refine V_aload_n 0 d_Mod_readCellOf_112 rfl rfl ?_
              refine N_getK fa_Mod_102 sk_116 rfl d_Mod_readCellOf_113 o105K ?_
              refine V_if_ne 123 o105E d_Mod_readCellOf_116 (by decide) (fun c115 => ?_) (fun c115 => ?_)
              ·
                refine V_aload_n 0 d_Mod_readCellOf_123 rfl rfl ?_
                refine V_getR fa_Mod_17 sk_116 rfl d_Mod_readCellOf_124 ?_
                refine V_iload d_Mod_readCellOf_127 rfl ?_
                refine V_iload_n 2 d_Mod_readCellOf_129 rfl rfl ?_
                refine V_iadd tc_0 z4E (by (first | decide +kernel | with_reducible assumption | omega)) d_Mod_readCellOf_130 (fun z116 z116e z116E => ?_)
                refine N_iald sk_119 z116E (by (first | decide +kernel | with_reducible assumption | omega)) d_Mod_readCellOf_131 (fun z117 z117Z z117E z117e => ?_)
                refine N_iast sk_119 z114E (by (first | decide +kernel | with_reducible assumption | omega)) d_Mod_readCellOf_132 (fun h118 eh118 => ?_)
                have hI119 : Inv h118 := inv_full hI99 eh118 (st_lo (by (first | decide +kernel | with_reducible assumption | omega)))
                have f120 : fr S_Mod_readCellOfX_4 h h118 := fr_put f100 eh118 rfl
                exact V_vret rfl d_Mod_readCellOf_133 ⟨rfl, ⟨hI119, f120, o101, o101Z, o101E, (kn_ne eh118 o101K (by decide)), o102, o102Z, o102E, (kn_ne eh118 o102K (by decide)), o103, o103Z, o103E, (kn_ne eh118 o103K (by decide)), o104, o104Z, o104E, (kn_ne eh118 o104K (by decide)), o105, o105Z, o105E, (kn_ne eh118 o105K (by decide)), o106, o106Z, o106E, (kn_ne eh118 o106K (by decide)), ⟨Or.inl ⟨by (first | decide +kernel | with_reducible assumption | omega), (show x_l1 b T p0 = (x_cN b (x_en b p0) 1 9, x_fr b (x_en b p0)) from by unfold x_l1; rw [x_sq_n (c := x_cN b p0 0 15) (by (first | decide +kernel | with_reducible assumption | omega)), x_sq_n (c := x_c4 (T 1 (x_vl b p0))) (by (first | decide +kernel | with_reducible assumption | omega)), x_sq_y (c := x_cN b (x_en b p0) 1 9) (by (first | decide +kernel | with_reducible assumption | omega))]).trans (pq (by (first | decide +kernel | with_reducible assumption | omega)) (by (first | decide +kernel | with_reducible assumption | omega)))⟩, by (first | decide +kernel | with_reducible assumption | omega), by (first | decide +kernel | with_reducible assumption | omega), by (first | decide +kernel | with_reducible assumption | omega)⟩⟩⟩
              ·
                exact absurd c115 (by (first | decide +kernel | with_reducible assumption | omega))
          ·
            replace p98 := And.intro ((p98.1.resolve_left (fun q => by (first | decide +kernel | with_reducible assumption | omega))).resolve_left (fun q => by (first | decide +kernel | with_reducible assumption | omega))).2.1 (And.intro ((p98.1.resolve_left (fun q => by (first | decide +kernel | with_reducible assumption | omega))).resolve_left (fun q => by (first | decide +kernel | with_reducible assumption | omega))).2.2.1 (And.intro (((p98.1.resolve_left (fun q => by (first | decide +kernel | with_reducible assumption | omega))).resolve_left (fun q => by (first | decide +kernel | with_reducible assumption | omega))).2.2.2.resolve_right (fun q => by (first | decide +kernel | with_reducible assumption | omega))) p98.2))
            have g121 := x_cN_s b (x_en b p0) 1 9
            have g122 := x_cS_s b (x_en b (x_en b p0))
            refine V_istore_n 3 [some (.ref 116), some (.int 4), some (.int z4), some (.int z96), none] d_Mod_readCellOf_79 rfl (by decide) rfl rfl ?_
            refine V_iload_n 1 d_Mod_readCellOf_80 rfl rfl ?_
            refine V_iconst 4 d_Mod_readCellOf_81 (by decide) ?_
            refine V_icmp_ne 89 tc_4 tc_4 d_Mod_readCellOf_82 (by decide) (fun c123 => ?_) (fun c123 => ?_)
            ·
              exact absurd c123 (by decide)
            ·
              refine V_iconst 0 d_Mod_readCellOf_85 (by decide) ?_
              refine V_goto 102 d_Mod_readCellOf_86 (by decide) ?_
              refine V_istore 4 [some (.ref 116), some (.int 4), some (.int z4), some (.int z96), some (.int 0)] d_Mod_readCellOf_102 (by decide) rfl rfl ?_
              refine V_aload_n 0 d_Mod_readCellOf_104 rfl rfl ?_
              refine V_getR fa_Mod_17 sk_116 rfl d_Mod_readCellOf_105 ?_
              refine V_iload d_Mod_readCellOf_108 rfl ?_
              refine V_iload_n 2 d_Mod_readCellOf_110 rfl rfl ?_
              refine V_iadd tc_0 z4E (by (first | decide +kernel | with_reducible assumption | omega)) d_Mod_readCellOf_111 (fun z124 z124e z124E => ?_)
              refine V_aload_n 0 d_Mod_readCellOf_112 rfl rfl ?_
              refine N_getK fa_Mod_102 sk_116 rfl d_Mod_readCellOf_113 o105K ?_
              refine V_if_ne 123 o105E d_Mod_readCellOf_116 (by decide) (fun c125 => ?_) (fun c125 => ?_)
              ·
                refine V_aload_n 0 d_Mod_readCellOf_123 rfl rfl ?_
                refine V_getR fa_Mod_17 sk_116 rfl d_Mod_readCellOf_124 ?_
                refine V_iload d_Mod_readCellOf_127 rfl ?_
                refine V_iload_n 2 d_Mod_readCellOf_129 rfl rfl ?_
                refine V_iadd tc_0 z4E (by (first | decide +kernel | with_reducible assumption | omega)) d_Mod_readCellOf_130 (fun z126 z126e z126E => ?_)
                refine N_iald sk_119 z126E (by (first | decide +kernel | with_reducible assumption | omega)) d_Mod_readCellOf_131 (fun z127 z127Z z127E z127e => ?_)
                refine N_iast sk_119 z124E (by (first | decide +kernel | with_reducible assumption | omega)) d_Mod_readCellOf_132 (fun h128 eh128 => ?_)
                have hI129 : Inv h128 := inv_full hI99 eh128 (st_lo (by (first | decide +kernel | with_reducible assumption | omega)))
                have f130 : fr S_Mod_readCellOfX_4 h h128 := fr_put f100 eh128 rfl
                exact V_vret rfl d_Mod_readCellOf_133 ⟨rfl, ⟨hI129, f130, o101, o101Z, o101E, (kn_ne eh128 o101K (by decide)), o102, o102Z, o102E, (kn_ne eh128 o102K (by decide)), o103, o103Z, o103E, (kn_ne eh128 o103K (by decide)), o104, o104Z, o104E, (kn_ne eh128 o104K (by decide)), o105, o105Z, o105E, (kn_ne eh128 o105K (by decide)), o106, o106Z, o106E, (kn_ne eh128 o106K (by decide)), ⟨Or.inl ⟨by (first | decide +kernel | with_reducible assumption | omega), (show x_l1 b T p0 = (x_cS b (x_en b (x_en b p0)), x_fr b (x_en b (x_en b p0))) from by unfold x_l1; rw [x_sq_n (c := x_cN b p0 0 15) (by (first | decide +kernel | with_reducible assumption | omega)), x_sq_n (c := x_c4 (T 1 (x_vl b p0))) (by (first | decide +kernel | with_reducible assumption | omega)), x_sq_n (c := x_cN b (x_en b p0) 1 9) (by (first | decide +kernel | with_reducible assumption | omega)), x_sq_y (c := x_cS b (x_en b (x_en b p0))) (by (first | decide +kernel | with_reducible assumption | omega))]).trans (pq (by (first | decide +kernel | with_reducible assumption | omega)) (by (first | decide +kernel | with_reducible assumption | omega)))⟩, by (first | decide +kernel | with_reducible assumption | omega), by (first | decide +kernel | with_reducible assumption | omega), by (first | decide +kernel | with_reducible assumption | omega)⟩⟩⟩
              ·
                exact absurd c125 (by (first | decide +kernel | with_reducible assumption | omega))
          ·
            replace p98 := And.intro ((p98.1.resolve_left (fun q => by (first | decide +kernel | with_reducible assumption | omega))).resolve_left (fun q => by (first | decide +kernel | with_reducible assumption | omega))).2.1 (And.intro ((p98.1.resolve_left (fun q => by (first | decide +kernel | with_reducible assumption | omega))).resolve_left (fun q => by (first | decide +kernel | with_reducible assumption | omega))).2.2.1 (And.intro (((p98.1.resolve_left (fun q => by (first | decide +kernel | with_reducible assumption | omega))).resolve_left (fun q => by (first | decide +kernel | with_reducible assumption | omega))).2.2.2.resolve_left (fun q => by (first | decide +kernel | with_reducible assumption | omega))) p98.2))
            refine V_istore_n 3 [some (.ref 116), some (.int 4), some (.int z4), some (.int z96), none] d_Mod_readCellOf_79 rfl (by decide) rfl rfl ?_
            refine V_iload_n 1 d_Mod_readCellOf_80 rfl rfl ?_
            refine V_iconst 4 d_Mod_readCellOf_81 (by decide) ?_
            refine V_icmp_ne 89 tc_4 tc_4 d_Mod_readCellOf_82 (by decide) (fun c131 => ?_) (fun c131 => ?_)
            ·
              exact absurd c131 (by decide)
            ·
              refine V_iconst 0 d_Mod_readCellOf_85 (by decide) ?_
              refine V_goto 102 d_Mod_readCellOf_86 (by decide) ?_
              refine V_istore 4 [some (.ref 116), some (.int 4), some (.int z4), some (.int z96), some (.int 0)] d_Mod_readCellOf_102 (by decide) rfl rfl ?_
              refine V_aload_n 0 d_Mod_readCellOf_104 rfl rfl ?_
              refine V_getR fa_Mod_17 sk_116 rfl d_Mod_readCellOf_105 ?_
              refine V_iload d_Mod_readCellOf_108 rfl ?_
              refine V_iload_n 2 d_Mod_readCellOf_110 rfl rfl ?_
              refine V_iadd tc_0 z4E (by (first | decide +kernel | with_reducible assumption | omega)) d_Mod_readCellOf_111 (fun z132 z132e z132E => ?_)
              refine V_aload_n 0 d_Mod_readCellOf_112 rfl rfl ?_
              refine N_getK fa_Mod_102 sk_116 rfl d_Mod_readCellOf_113 o105K ?_
              refine V_if_ne 123 o105E d_Mod_readCellOf_116 (by decide) (fun c133 => ?_) (fun c133 => ?_)
              ·
                exact absurd c133 (by (first | decide +kernel | with_reducible assumption | omega))
              ·
                refine V_iload_n 3 d_Mod_readCellOf_119 rfl rfl ?_
                refine V_goto 132 d_Mod_readCellOf_120 (by decide) ?_
                refine N_iast sk_119 z132E (by (first | decide +kernel | with_reducible assumption | omega)) d_Mod_readCellOf_132 (fun h134 eh134 => ?_)
                have hI135 : Inv h134 := inv_full hI99 eh134 (st_lo (by (first | decide +kernel | with_reducible assumption | omega)))
                have f136 : fr S_Mod_readCellOfX_4 h h134 := fr_put f100 eh134 rfl
                have R137 : RM h134 (x_upT T 1 (x_vl b p0)) (x_up D (x_vl b p0) (x_vl b (x_en b p0))) := RM_put R107 eh134 (Or.inl ⟨rfl, by (first | decide +kernel | with_reducible assumption | omega), rfl⟩) (z96E.trans (by (first | decide +kernel | with_reducible assumption | omega))) (by (first | decide +kernel | with_reducible assumption | omega))
                exact V_vret rfl d_Mod_readCellOf_133 ⟨rfl, ⟨hI135, f136, o101, o101Z, o101E, (kn_ne eh134 o101K (by decide)), o102, o102Z, o102E, (kn_ne eh134 o102K (by decide)), o103, o103Z, o103E, (kn_ne eh134 o103K (by decide)), o104, o104Z, o104E, (kn_ne eh134 o104K (by decide)), o105, o105Z, o105E, (kn_ne eh134 o105K (by decide)), o106, o106Z, o106E, (kn_ne eh134 o106K (by decide)), ⟨Or.inr ⟨by (first | decide +kernel | with_reducible assumption | omega), by unfold x_l1; rw [x_sq_n (c := x_cN b p0 0 15) (by (first | decide +kernel | with_reducible assumption | omega)), x_sq_n (c := x_c4 (T 1 (x_vl b p0))) (by (first | decide +kernel | with_reducible assumption | omega)), x_sq_n (c := x_cN b (x_en b p0) 1 9) (by (first | decide +kernel | with_reducible assumption | omega))], p98.2.2.1.2, R137⟩, by (first | decide +kernel | with_reducible assumption | omega), by (first | decide +kernel | with_reducible assumption | omega), by (first | decide +kernel | with_reducible assumption | omega)⟩⟩⟩
    ·
      exact absurd c93 (by decide)
def S_Mod_readCellOfX_5 : List (Nat × Option Nat) := [(116, some 16), (116, some 17), (116, some 18), (116, some 19), (116, some 20), (116, some 21), (119, none), (120, some 1), (116, some 13)]
abbrev q_Mod_readCellOfX_5 (h : Hp) (b : Int → Int) (T : Nat → Int → Int) (D : Nat → Int) (p0 : Int) (s : Int32) (sZ : Int) (p : Int32) (pZ : Int) (g : Int32) (gZ : Int) (k : Int32) (kZ : Int) (v : Int32) (vZ : Int) (w : Int32) (wZ : Int) (a : Int32) (aZ : Int) (z : Int32) (zZ : Int) (i : Int32) (iZ : Int) : Option Value → Hp → Prop := pVd (fun h' => Inv h' ∧ fr S_Mod_readCellOfX_5 h h' ∧ ∃ (q : Int32) (qZ : Int), q.toInt = qZ ∧ h'.1 116 16 = q ∧ ∃ (f : Int32) (fZ : Int), f.toInt = fZ ∧ h'.1 116 17 = f ∧ ∃ (m : Int32) (mZ : Int), m.toInt = mZ ∧ h'.1 116 18 = m ∧ ∃ (x : Int32) (xZ : Int), x.toInt = xZ ∧ h'.1 116 19 = x ∧ ∃ (u : Int32) (uZ : Int), u.toInt = uZ ∧ h'.1 116 20 = u ∧ ∃ (y : Int32) (yZ : Int), y.toInt = yZ ∧ h'.1 116 21 = y ∧ ((uZ ≠ 0 ∧ x_l2 b T p0 = (uZ, yZ) ∨ uZ = 0 ∧ x_l2 b T p0 = x_sq (x_cS b (x_en b p0)) (x_fr b (x_en b p0)) (0, x_en b (x_en b p0)) ∧ (fZ = x_fr b (x_en b p0) ∧ mZ = x_kd b (x_en b p0) ∧ mZ ≠ 4 ∧ 0 ≤ mZ ∧ mZ ≤ 3 ∧ qZ = x_en b (x_en b p0) ∧ (mZ ≠ 2 ∨ xZ = x_vl b (x_en b p0) ∧ 0 ≤ xZ ∧ xZ ≤ 99) ∧ (x_en b p0) ≤ fZ ∧ fZ ≤ qZ ∧ qZ ≤ sZ ∧ (mZ = 0 ∨ fZ < qZ)) ∧ RM h' (x_upT T 2 (x_vl b p0)) (x_up D (16 + (x_vl b p0)) 1)) ∧ 0 ≤ qZ ∧ qZ ≤ sZ ∧ 0 ≤ uZ))
set_option maxRecDepth 100000 in
theorem c_Mod_readCellOfX_5 (h : Hp) (b : Int → Int) (T : Nat → Int → Int) (D : Nat → Int) (p0 : Int) (hI : Inv h) (s : Int32) (sZ : Int) (sE : s.toInt = sZ) (sK : h.1 116 15 = s) (p : Int32) (pZ : Int) (pE : p.toInt = pZ) (pK : h.1 116 16 = p) (g : Int32) (gZ : Int) (gE : g.toInt = gZ) (gK : h.1 116 17 = g) (k : Int32) (kZ : Int) (kE : k.toInt = kZ) (kK : h.1 116 18 = k) (v : Int32) (vZ : Int) (vE : v.toInt = vZ) (vK : h.1 116 19 = v) (w : Int32) (wZ : Int) (wE : w.toInt = wZ) (wK : h.1 116 20 = w) (a : Int32) (aZ : Int) (aE : a.toInt = aZ) (aK : h.1 116 21 = a) (z : Int32) (zZ : Int) (zE : z.toInt = zZ) (zK : h.1 120 1 = z) (i : Int32) (iZ : Int) (iE : i.toInt = iZ) (iK : h.1 116 13 = i) (hy0 : TP h 121 sZ b) (hy1 : 0 ≤ pZ ∧ pZ ≤ sZ ∧ wZ = 0) (hy2 : gZ = x_fr b p0 ∧ kZ = x_kd b p0 ∧ kZ ≠ 4 ∧ 0 ≤ kZ ∧ kZ ≤ 3 ∧ pZ = x_en b p0 ∧ (kZ ≠ 2 ∨ vZ = x_vl b p0 ∧ 0 ≤ vZ ∧ vZ ≤ 99) ∧ p0 ≤ gZ ∧ gZ ≤ pZ ∧ pZ ≤ sZ ∧ (kZ = 0 ∨ gZ < pZ)) (hy3 : RM h T D) : Ct y_Mod_readCellOf b_Mod_readCellOf 5 none 3 70 [.ref 116, .int 5] h (q_Mod_readCellOfX_5 h b T D p0 s sZ p pZ g gZ k kZ v vZ w wZ a aZ z zZ i iZ) := by
  refine ct_ow R_Mod [some (.ref 116), some (.int 5), none, none, none] rfl (by decide) rfl (Nat.le_of_ble_eq_true rfl) ?_
  have f0 : fr S_Mod_readCellOfX_5 h h := fr_rf
  have g1 : 0 ≤ sZ ∧ sZ ≤ 160 := inv_at hI sE sK.symm rfl
  have g2 : 0 ≤ pZ ∧ pZ ≤ 160 := inv_at hI pE pK.symm rfl
  have g3 : 0 ≤ gZ ∧ gZ ≤ 160 := inv_at hI gE gK.symm rfl
  refine V_aload_n 0 d_Mod_readCellOf_0 rfl rfl ?_
  refine V_iload_n 1 d_Mod_readCellOf_1 rfl rfl ?_
  refine V_bipush 15 d_Mod_readCellOf_2 (by decide) ?_
  refine N_callVI [.int 5, .int 15] [] cv_Mod_161 sk_116 rfl d_Mod_readCellOf_4 rfl (Nat.le_of_ble_eq_true rfl) (by decide) (by decide) (c_Mod_readFreshX_5 h b T D p0 hI s sZ sE sK p pZ pE pK g gZ gE gK k kZ kE kK v vZ vE vK w wZ wE wK a aZ aE aK z zZ zE zK i iZ iE iK (TP_fr f0 (fun _ => rfl) hy0) (by (first | decide +kernel | with_reducible assumption | omega)) ⟨by (first | decide +kernel | with_reducible assumption | omega), by (first | decide +kernel | with_reducible assumption | omega), by (first | decide +kernel | with_reducible assumption | omega), by (first | decide +kernel | with_reducible assumption | omega), by (first | decide +kernel | with_reducible assumption | omega), by (first | decide +kernel | with_reducible assumption | omega), by (first | decide +kernel | with_reducible assumption | omega), by (first | decide +kernel | with_reducible assumption | omega), by (first | decide +kernel | with_reducible assumption | omega), by (first | decide +kernel | with_reducible assumption | omega), by (first | decide +kernel | with_reducible assumption | omega)⟩ hy3) (fun z4 h5 z4Z z4E p6 => ?_)
  obtain ⟨hI7, fh5, o9, o9Z, o9E, o9K, o10, o10Z, o10E, o10K, o11, o11Z, o11E, o11K, o12, o12Z, o12E, o12K, o13, o13Z, o13E, o13K, o14, o14Z, o14E, o14K, p6⟩ := p6
  have f8 : fr S_Mod_readCellOfX_5 h h5 := fr_call f0 fh5 rfl
  have g15 : 0 ≤ o9Z ∧ o9Z ≤ 160 := inv_at hI7 o9E o9K.symm rfl
  have g16 : 0 ≤ o10Z ∧ o10Z ≤ 160 := inv_at hI7 o10E o10K.symm rfl
  refine V_istore_n 2 [some (.ref 116), some (.int 5), some (.int z4), none, none] d_Mod_readCellOf_7 rfl (by decide) rfl rfl ?_
  rcases (dj4 _ _ _ : o13Z ≠ 0 ∧ x_cN b p0 0 15 ≠ 0 ∨ o13Z ≠ 0 ∧ x_cN b p0 0 15 = 0 ∧ x_c4 (T 2 (x_vl b p0)) ≠ 0 ∨ o13Z ≠ 0 ∧ x_cN b p0 0 15 = 0 ∧ x_c4 (T 2 (x_vl b p0)) = 0 ∨ o13Z = 0) with c17 | c17 | c17 | c17
  ·
    replace p6 := And.intro (p6.1.resolve_right (fun q => by (first | decide +kernel | with_reducible assumption | omega))) p6.2
    have g18 := x_cN_s b p0 0 15
    refine V_iload_n 1 d_Mod_readCellOf_8 rfl rfl ?_
    refine V_iconst 5 d_Mod_readCellOf_9 (by decide) ?_
    refine V_icmp_ne 43 tc_5 tc_5 d_Mod_readCellOf_10 (by decide) (fun c19 => ?_) (fun c19 => ?_)
    ·
      exact absurd c19 (by decide)
    ·
      refine V_aload_n 0 d_Mod_readCellOf_13 rfl rfl ?_
      refine V_getR fa_Mod_17 sk_116 rfl d_Mod_readCellOf_14 ?_
      refine V_bipush 16 d_Mod_readCellOf_17 (by decide) ?_
      refine V_iload_n 2 d_Mod_readCellOf_19 rfl rfl ?_
      refine V_iadd tc_16 z4E (by (first | decide +kernel | with_reducible assumption | omega)) d_Mod_readCellOf_20 (fun z20 z20e z20E => ?_)
      refine V_aload_n 0 d_Mod_readCellOf_21 rfl rfl ?_
      refine N_getK fa_Mod_102 sk_116 rfl d_Mod_readCellOf_22 o13K ?_
      refine V_if_ne 32 o13E d_Mod_readCellOf_25 (by decide) (fun c21 => ?_) (fun c21 => ?_)
      ·
        refine V_aload_n 0 d_Mod_readCellOf_32 rfl rfl ?_
        refine V_getR fa_Mod_17 sk_116 rfl d_Mod_readCellOf_33 ?_
        refine V_bipush 16 d_Mod_readCellOf_36 (by decide) ?_
        refine V_iload_n 2 d_Mod_readCellOf_38 rfl rfl ?_
        refine V_iadd tc_16 z4E (by (first | decide +kernel | with_reducible assumption | omega)) d_Mod_readCellOf_39 (fun z22 z22e z22E => ?_)
        refine N_iald sk_119 z22E (by (first | decide +kernel | with_reducible assumption | omega)) d_Mod_readCellOf_40 (fun z23 z23Z z23E z23e => ?_)
        refine N_iast sk_119 z20E (by (first | decide +kernel | with_reducible assumption | omega)) d_Mod_readCellOf_41 (fun h24 eh24 => ?_)
        have hI25 : Inv h24 := inv_full hI7 eh24 (st_lo (by (first | decide +kernel | with_reducible assumption | omega)))
        have f26 : fr S_Mod_readCellOfX_5 h h24 := fr_put f8 eh24 rfl
        exact V_vret rfl d_Mod_readCellOf_42 ⟨rfl, ⟨hI25, f26, o9, o9Z, o9E, (kn_ne eh24 o9K (by decide)), o10, o10Z, o10E, (kn_ne eh24 o10K (by decide)), o11, o11Z, o11E, (kn_ne eh24 o11K (by decide)), o12, o12Z, o12E, (kn_ne eh24 o12K (by decide)), o13, o13Z, o13E, (kn_ne eh24 o13K (by decide)), o14, o14Z, o14E, (kn_ne eh24 o14K (by decide)), ⟨Or.inl ⟨by (first | decide +kernel | with_reducible assumption | omega), (show x_l2 b T p0 = (x_cN b p0 0 15, x_fr b p0) from by unfold x_l2; rw [x_sq_y (c := x_cN b p0 0 15) (by (first | decide +kernel | with_reducible assumption | omega))]).trans (pq (by (first | decide +kernel | with_reducible assumption | omega)) (by (first | decide +kernel | with_reducible assumption | omega)))⟩, by (first | decide +kernel | with_reducible assumption | omega), by (first | decide +kernel | with_reducible assumption | omega), by (first | decide +kernel | with_reducible assumption | omega)⟩⟩⟩
      ·
        exact absurd c21 (by (first | decide +kernel | with_reducible assumption | omega))
  ·
    replace p6 := And.intro ((p6.1.resolve_left (fun q => by (first | decide +kernel | with_reducible assumption | omega))).resolve_right (fun q => by (first | decide +kernel | with_reducible assumption | omega))) p6.2
    have g27 := x_c4_s (T 2 (x_vl b p0))
    refine V_iload_n 1 d_Mod_readCellOf_8 rfl rfl ?_
    refine V_iconst 5 d_Mod_readCellOf_9 (by decide) ?_
    refine V_icmp_ne 43 tc_5 tc_5 d_Mod_readCellOf_10 (by decide) (fun c28 => ?_) (fun c28 => ?_)
    ·
      exact absurd c28 (by decide)
    ·
      refine V_aload_n 0 d_Mod_readCellOf_13 rfl rfl ?_
      refine V_getR fa_Mod_17 sk_116 rfl d_Mod_readCellOf_14 ?_
      refine V_bipush 16 d_Mod_readCellOf_17 (by decide) ?_
      refine V_iload_n 2 d_Mod_readCellOf_19 rfl rfl ?_
      refine V_iadd tc_16 z4E (by (first | decide +kernel | with_reducible assumption | omega)) d_Mod_readCellOf_20 (fun z29 z29e z29E => ?_)
      refine V_aload_n 0 d_Mod_readCellOf_21 rfl rfl ?_
      refine N_getK fa_Mod_102 sk_116 rfl d_Mod_readCellOf_22 o13K ?_
      refine V_if_ne 32 o13E d_Mod_readCellOf_25 (by decide) (fun c30 => ?_) (fun c30 => ?_)
      ·
        refine V_aload_n 0 d_Mod_readCellOf_32 rfl rfl ?_
        refine V_getR fa_Mod_17 sk_116 rfl d_Mod_readCellOf_33 ?_
        refine V_bipush 16 d_Mod_readCellOf_36 (by decide) ?_
        refine V_iload_n 2 d_Mod_readCellOf_38 rfl rfl ?_
        refine V_iadd tc_16 z4E (by (first | decide +kernel | with_reducible assumption | omega)) d_Mod_readCellOf_39 (fun z31 z31e z31E => ?_)
        refine N_iald sk_119 z31E (by (first | decide +kernel | with_reducible assumption | omega)) d_Mod_readCellOf_40 (fun z32 z32Z z32E z32e => ?_)
        refine N_iast sk_119 z29E (by (first | decide +kernel | with_reducible assumption | omega)) d_Mod_readCellOf_41 (fun h33 eh33 => ?_)
        have hI34 : Inv h33 := inv_full hI7 eh33 (st_lo (by (first | decide +kernel | with_reducible assumption | omega)))
        have f35 : fr S_Mod_readCellOfX_5 h h33 := fr_put f8 eh33 rfl
        exact V_vret rfl d_Mod_readCellOf_42 ⟨rfl, ⟨hI34, f35, o9, o9Z, o9E, (kn_ne eh33 o9K (by decide)), o10, o10Z, o10E, (kn_ne eh33 o10K (by decide)), o11, o11Z, o11E, (kn_ne eh33 o11K (by decide)), o12, o12Z, o12E, (kn_ne eh33 o12K (by decide)), o13, o13Z, o13E, (kn_ne eh33 o13K (by decide)), o14, o14Z, o14E, (kn_ne eh33 o14K (by decide)), ⟨Or.inl ⟨by (first | decide +kernel | with_reducible assumption | omega), (show x_l2 b T p0 = (x_c4 (T 2 (x_vl b p0)), x_fr b p0) from by unfold x_l2; rw [x_sq_n (c := x_cN b p0 0 15) (by (first | decide +kernel | with_reducible assumption | omega)), x_sq_y (c := x_c4 (T 2 (x_vl b p0))) (by (first | decide +kernel | with_reducible assumption | omega))]).trans (pq (by (first | decide +kernel | with_reducible assumption | omega)) (by (first | decide +kernel | with_reducible assumption | omega)))⟩, by (first | decide +kernel | with_reducible assumption | omega), by (first | decide +kernel | with_reducible assumption | omega), by (first | decide +kernel | with_reducible assumption | omega)⟩⟩⟩
      ·
        exact absurd c30 (by (first | decide +kernel | with_reducible assumption | omega))
  ·
    replace p6 := And.intro (((p6.1.resolve_left (fun q => by (first | decide +kernel | with_reducible assumption | omega))).resolve_left (fun q => by (first | decide +kernel | with_reducible assumption | omega))).2.2.2.1.resolve_right (fun q => by (first | decide +kernel | with_reducible assumption | omega))) p6.2
    have g36 := x_cS_s b (x_en b p0)
    refine V_iload_n 1 d_Mod_readCellOf_8 rfl rfl ?_
    refine V_iconst 5 d_Mod_readCellOf_9 (by decide) ?_
    refine V_icmp_ne 43 tc_5 tc_5 d_Mod_readCellOf_10 (by decide) (fun c37 => ?_) (fun c37 => ?_)
    ·
      exact absurd c37 (by decide)
    ·
      refine V_aload_n 0 d_Mod_readCellOf_13 rfl rfl ?_
      refine V_getR fa_Mod_17 sk_116 rfl d_Mod_readCellOf_14 ?_
      refine V_bipush 16 d_Mod_readCellOf_17 (by decide) ?_
      refine V_iload_n 2 d_Mod_readCellOf_19 rfl rfl ?_
      refine V_iadd tc_16 z4E (by (first | decide +kernel | with_reducible assumption | omega)) d_Mod_readCellOf_20 (fun z38 z38e z38E => ?_)
      refine V_aload_n 0 d_Mod_readCellOf_21 rfl rfl ?_
      refine N_getK fa_Mod_102 sk_116 rfl d_Mod_readCellOf_22 o13K ?_
      refine V_if_ne 32 o13E d_Mod_readCellOf_25 (by decide) (fun c39 => ?_) (fun c39 => ?_)
      ·
        refine V_aload_n 0 d_Mod_readCellOf_32 rfl rfl ?_
        refine V_getR fa_Mod_17 sk_116 rfl d_Mod_readCellOf_33 ?_
        refine V_bipush 16 d_Mod_readCellOf_36 (by decide) ?_
        refine V_iload_n 2 d_Mod_readCellOf_38 rfl rfl ?_
        refine V_iadd tc_16 z4E (by (first | decide +kernel | with_reducible assumption | omega)) d_Mod_readCellOf_39 (fun z40 z40e z40E => ?_)
        refine N_iald sk_119 z40E (by (first | decide +kernel | with_reducible assumption | omega)) d_Mod_readCellOf_40 (fun z41 z41Z z41E z41e => ?_)
        refine N_iast sk_119 z38E (by (first | decide +kernel | with_reducible assumption | omega)) d_Mod_readCellOf_41 (fun h42 eh42 => ?_)
        have hI43 : Inv h42 := inv_full hI7 eh42 (st_lo (by (first | decide +kernel | with_reducible assumption | omega)))
        have f44 : fr S_Mod_readCellOfX_5 h h42 := fr_put f8 eh42 rfl
        exact V_vret rfl d_Mod_readCellOf_42 ⟨rfl, ⟨hI43, f44, o9, o9Z, o9E, (kn_ne eh42 o9K (by decide)), o10, o10Z, o10E, (kn_ne eh42 o10K (by decide)), o11, o11Z, o11E, (kn_ne eh42 o11K (by decide)), o12, o12Z, o12E, (kn_ne eh42 o12K (by decide)), o13, o13Z, o13E, (kn_ne eh42 o13K (by decide)), o14, o14Z, o14E, (kn_ne eh42 o14K (by decide)), ⟨Or.inl ⟨by (first | decide +kernel | with_reducible assumption | omega), (show x_l2 b T p0 = (x_cS b (x_en b p0), x_fr b (x_en b p0)) from by unfold x_l2; rw [x_sq_n (c := x_cN b p0 0 15) (by (first | decide +kernel | with_reducible assumption | omega)), x_sq_n (c := x_c4 (T 2 (x_vl b p0))) (by (first | decide +kernel | with_reducible assumption | omega)), x_sq_y (c := x_cS b (x_en b p0)) (by (first | decide +kernel | with_reducible assumption | omega))]).trans (pq (by (first | decide +kernel | with_reducible assumption | omega)) (by (first | decide +kernel | with_reducible assumption | omega)))⟩, by (first | decide +kernel | with_reducible assumption | omega), by (first | decide +kernel | with_reducible assumption | omega), by (first | decide +kernel | with_reducible assumption | omega)⟩⟩⟩
      ·
        exact absurd c39 (by (first | decide +kernel | with_reducible assumption | omega))
  ·
    obtain ⟨p61, p62, p63, p64, p6R⟩ := ((p6.1.resolve_left (fun q => by (first | decide +kernel | with_reducible assumption | omega))).resolve_left (fun q => by (first | decide +kernel | with_reducible assumption | omega)))
    replace p6 := And.intro (p64.resolve_left (fun q => by (first | decide +kernel | with_reducible assumption | omega))) p6.2
    clear p64
    refine V_iload_n 1 d_Mod_readCellOf_8 rfl rfl ?_
    refine V_iconst 5 d_Mod_readCellOf_9 (by decide) ?_
    refine V_icmp_ne 43 tc_5 tc_5 d_Mod_readCellOf_10 (by decide) (fun c45 => ?_) (fun c45 => ?_)
    ·
      exact absurd c45 (by decide)
    ·
      refine V_aload_n 0 d_Mod_readCellOf_13 rfl rfl ?_
      refine V_getR fa_Mod_17 sk_116 rfl d_Mod_readCellOf_14 ?_
      refine V_bipush 16 d_Mod_readCellOf_17 (by decide) ?_
      refine V_iload_n 2 d_Mod_readCellOf_19 rfl rfl ?_
      refine V_iadd tc_16 z4E (by (first | decide +kernel | with_reducible assumption | omega)) d_Mod_readCellOf_20 (fun z46 z46e z46E => ?_)
      refine V_aload_n 0 d_Mod_readCellOf_21 rfl rfl ?_
      refine N_getK fa_Mod_102 sk_116 rfl d_Mod_readCellOf_22 o13K ?_
      refine V_if_ne 32 o13E d_Mod_readCellOf_25 (by decide) (fun c47 => ?_) (fun c47 => ?_)
      ·
        exact absurd c47 (by (first | decide +kernel | with_reducible assumption | omega))
      ·
        refine V_iconst 1 d_Mod_readCellOf_28 (by decide) ?_
        refine V_goto 41 d_Mod_readCellOf_29 (by decide) ?_
        refine N_iast sk_119 z46E (by (first | decide +kernel | with_reducible assumption | omega)) d_Mod_readCellOf_41 (fun h48 eh48 => ?_)
        have hI49 : Inv h48 := inv_full hI7 eh48 (st_lo (by (first | decide +kernel | with_reducible assumption | omega)))
        have f50 : fr S_Mod_readCellOfX_5 h h48 := fr_put f8 eh48 rfl
        have R51 : RM h48 (x_upT T 2 (x_vl b p0)) (x_up D (16 + (x_vl b p0)) 1) := RM_put p6R eh48 (Or.inl ⟨rfl, by (first | decide +kernel | with_reducible assumption | omega), rfl⟩) (tc_1.trans (by (first | decide +kernel | with_reducible assumption | omega))) (by (first | decide +kernel | with_reducible assumption | omega))
        exact V_vret rfl d_Mod_readCellOf_42 ⟨rfl, ⟨hI49, f50, o9, o9Z, o9E, (kn_ne eh48 o9K (by decide)), o10, o10Z, o10E, (kn_ne eh48 o10K (by decide)), o11, o11Z, o11E, (kn_ne eh48 o11K (by decide)), o12, o12Z, o12E, (kn_ne eh48 o12K (by decide)), o13, o13Z, o13E, (kn_ne eh48 o13K (by decide)), o14, o14Z, o14E, (kn_ne eh48 o14K (by decide)), ⟨Or.inr ⟨by (first | decide +kernel | with_reducible assumption | omega), by unfold x_l2; rw [x_sq_n (c := x_cN b p0 0 15) (by (first | decide +kernel | with_reducible assumption | omega)), x_sq_n (c := x_c4 (T 2 (x_vl b p0))) (by (first | decide +kernel | with_reducible assumption | omega))], p6.1.2, R51⟩, by (first | decide +kernel | with_reducible assumption | omega), by (first | decide +kernel | with_reducible assumption | omega), by (first | decide +kernel | with_reducible assumption | omega)⟩⟩⟩
def S_Mod_readCellOfX_6 : List (Nat × Option Nat) := [(116, some 16), (116, some 17), (116, some 18), (116, some 19), (116, some 20), (116, some 21), (119, none), (120, some 2), (116, some 13)]
abbrev q_Mod_readCellOfX_6 (h : Hp) (b : Int → Int) (T : Nat → Int → Int) (D : Nat → Int) (p0 : Int) (s : Int32) (sZ : Int) (p : Int32) (pZ : Int) (g : Int32) (gZ : Int) (k : Int32) (kZ : Int) (v : Int32) (vZ : Int) (w : Int32) (wZ : Int) (a : Int32) (aZ : Int) (z : Int32) (zZ : Int) (i : Int32) (iZ : Int) : Option Value → Hp → Prop := pVd (fun h' => Inv h' ∧ fr S_Mod_readCellOfX_6 h h' ∧ ∃ (q : Int32) (qZ : Int), q.toInt = qZ ∧ h'.1 116 16 = q ∧ ∃ (f : Int32) (fZ : Int), f.toInt = fZ ∧ h'.1 116 17 = f ∧ ∃ (m : Int32) (mZ : Int), m.toInt = mZ ∧ h'.1 116 18 = m ∧ ∃ (x : Int32) (xZ : Int), x.toInt = xZ ∧ h'.1 116 19 = x ∧ ∃ (u : Int32) (uZ : Int), u.toInt = uZ ∧ h'.1 116 20 = u ∧ ∃ (y : Int32) (yZ : Int), y.toInt = yZ ∧ h'.1 116 21 = y ∧ ((uZ ≠ 0 ∧ x_l3 b T p0 = (uZ, yZ) ∨ uZ = 0 ∧ x_l3 b T p0 = x_sq (x_cS b (x_en b (x_en b p0))) (x_fr b (x_en b (x_en b p0))) (0, x_en b (x_en b (x_en b p0))) ∧ (fZ = x_fr b (x_en b (x_en b p0)) ∧ mZ = x_kd b (x_en b (x_en b p0)) ∧ mZ ≠ 4 ∧ 0 ≤ mZ ∧ mZ ≤ 3 ∧ qZ = x_en b (x_en b (x_en b p0)) ∧ (mZ ≠ 2 ∨ xZ = x_vl b (x_en b (x_en b p0)) ∧ 0 ≤ xZ ∧ xZ ≤ 99) ∧ (x_en b (x_en b p0)) ≤ fZ ∧ fZ ≤ qZ ∧ qZ ≤ sZ ∧ (mZ = 0 ∨ fZ < qZ)) ∧ RM h' (x_upT T 3 (x_vl b p0)) (x_up D (32 + (x_vl b p0)) (x_vl b (x_en b p0)))) ∧ 0 ≤ qZ ∧ qZ ≤ sZ ∧ 0 ≤ uZ))
set_option maxRecDepth 100000 in
theorem c_Mod_readCellOfX_6 (h : Hp) (b : Int → Int) (T : Nat → Int → Int) (D : Nat → Int) (p0 : Int) (hI : Inv h) (s : Int32) (sZ : Int) (sE : s.toInt = sZ) (sK : h.1 116 15 = s) (p : Int32) (pZ : Int) (pE : p.toInt = pZ) (pK : h.1 116 16 = p) (g : Int32) (gZ : Int) (gE : g.toInt = gZ) (gK : h.1 116 17 = g) (k : Int32) (kZ : Int) (kE : k.toInt = kZ) (kK : h.1 116 18 = k) (v : Int32) (vZ : Int) (vE : v.toInt = vZ) (vK : h.1 116 19 = v) (w : Int32) (wZ : Int) (wE : w.toInt = wZ) (wK : h.1 116 20 = w) (a : Int32) (aZ : Int) (aE : a.toInt = aZ) (aK : h.1 116 21 = a) (z : Int32) (zZ : Int) (zE : z.toInt = zZ) (zK : h.1 120 2 = z) (i : Int32) (iZ : Int) (iE : i.toInt = iZ) (iK : h.1 116 13 = i) (hy0 : TP h 121 sZ b) (hy1 : 0 ≤ pZ ∧ pZ ≤ sZ ∧ wZ = 0) (hy2 : gZ = x_fr b p0 ∧ kZ = x_kd b p0 ∧ kZ ≠ 4 ∧ 0 ≤ kZ ∧ kZ ≤ 3 ∧ pZ = x_en b p0 ∧ (kZ ≠ 2 ∨ vZ = x_vl b p0 ∧ 0 ≤ vZ ∧ vZ ≤ 99) ∧ p0 ≤ gZ ∧ gZ ≤ pZ ∧ pZ ≤ sZ ∧ (kZ = 0 ∨ gZ < pZ)) (hy3 : RM h T D) : Ct y_Mod_readCellOf b_Mod_readCellOf 5 none 3 70 [.ref 116, .int 6] h (q_Mod_readCellOfX_6 h b T D p0 s sZ p pZ g gZ k kZ v vZ w wZ a aZ z zZ i iZ) := by
  refine ct_ow R_Mod [some (.ref 116), some (.int 6), none, none, none] rfl (by decide) rfl (Nat.le_of_ble_eq_true rfl) ?_
  have f0 : fr S_Mod_readCellOfX_6 h h := fr_rf
  have g1 : 0 ≤ sZ ∧ sZ ≤ 160 := inv_at hI sE sK.symm rfl
  have g2 : 0 ≤ pZ ∧ pZ ≤ 160 := inv_at hI pE pK.symm rfl
  have g3 : 0 ≤ gZ ∧ gZ ≤ 160 := inv_at hI gE gK.symm rfl
  refine V_aload_n 0 d_Mod_readCellOf_0 rfl rfl ?_
  refine V_iload_n 1 d_Mod_readCellOf_1 rfl rfl ?_
  refine V_bipush 15 d_Mod_readCellOf_2 (by decide) ?_
  refine N_callVI [.int 6, .int 15] [] cv_Mod_161 sk_116 rfl d_Mod_readCellOf_4 rfl (Nat.le_of_ble_eq_true rfl) (by decide) (by decide) (c_Mod_readFreshX_6 h b T D p0 hI s sZ sE sK p pZ pE pK g gZ gE gK k kZ kE kK v vZ vE vK w wZ wE wK a aZ aE aK z zZ zE zK i iZ iE iK (TP_fr f0 (fun _ => rfl) hy0) (by (first | decide +kernel | with_reducible assumption | omega)) ⟨by (first | decide +kernel | with_reducible assumption | omega), by (first | decide +kernel | with_reducible assumption | omega), by (first | decide +kernel | with_reducible assumption | omega), by (first | decide +kernel | with_reducible assumption | omega), by (first | decide +kernel | with_reducible assumption | omega), by (first | decide +kernel | with_reducible assumption | omega), by (first | decide +kernel | with_reducible assumption | omega), by (first | decide +kernel | with_reducible assumption | omega), by (first | decide +kernel | with_reducible assumption | omega), by (first | decide +kernel | with_reducible assumption | omega), by (first | decide +kernel | with_reducible assumption | omega)⟩ hy3) (fun z4 h5 z4Z z4E p6 => ?_)
  obtain ⟨hI7, fh5, o9, o9Z, o9E, o9K, o10, o10Z, o10E, o10K, o11, o11Z, o11E, o11K, o12, o12Z, o12E, o12K, o13, o13Z, o13E, o13K, o14, o14Z, o14E, o14K, p6⟩ := p6
  have f8 : fr S_Mod_readCellOfX_6 h h5 := fr_call f0 fh5 rfl
  have g15 : 0 ≤ o9Z ∧ o9Z ≤ 160 := inv_at hI7 o9E o9K.symm rfl
  have g16 : 0 ≤ o10Z ∧ o10Z ≤ 160 := inv_at hI7 o10E o10K.symm rfl
  refine V_istore_n 2 [some (.ref 116), some (.int 6), some (.int z4), none, none] d_Mod_readCellOf_7 rfl (by decide) rfl rfl ?_
  rcases (dj4 _ _ _ : o13Z ≠ 0 ∧ x_cN b p0 0 15 ≠ 0 ∨ o13Z ≠ 0 ∧ x_cN b p0 0 15 = 0 ∧ x_c4 (T 3 (x_vl b p0)) ≠ 0 ∨ o13Z ≠ 0 ∧ x_cN b p0 0 15 = 0 ∧ x_c4 (T 3 (x_vl b p0)) = 0 ∨ o13Z = 0) with c17 | c17 | c17 | c17
  ·
    replace p6 := And.intro (p6.1.resolve_right (fun q => by (first | decide +kernel | with_reducible assumption | omega))) p6.2
    have g18 := x_cN_s b p0 0 15
    refine V_iload_n 1 d_Mod_readCellOf_8 rfl rfl ?_
    refine V_iconst 5 d_Mod_readCellOf_9 (by decide) ?_
    refine V_icmp_ne 43 tc_6 tc_5 d_Mod_readCellOf_10 (by decide) (fun c19 => ?_) (fun c19 => ?_)
    ·
      refine V_aload_n 0 d_Mod_readCellOf_43 rfl rfl ?_
      refine V_iload_n 1 d_Mod_readCellOf_44 rfl rfl ?_
      refine V_iconst 4 d_Mod_readCellOf_45 (by decide) ?_
      refine V_icmp_ne 53 tc_6 tc_4 d_Mod_readCellOf_46 (by decide) (fun c20 => ?_) (fun c20 => ?_)
      ·
        refine V_iconst 0 d_Mod_readCellOf_53 (by decide) ?_
        refine V_iload_n 1 d_Mod_readCellOf_54 rfl rfl ?_
        refine V_iconst 4 d_Mod_readCellOf_55 (by decide) ?_
        refine V_icmp_ne 64 tc_6 tc_4 d_Mod_readCellOf_56 (by decide) (fun c21 => ?_) (fun c21 => ?_)
        ·
          refine V_iload_n 1 d_Mod_readCellOf_64 rfl rfl ?_
          refine V_bipush 6 d_Mod_readCellOf_65 (by decide) ?_
          refine V_icmp_ne 75 tc_6 tc_6 d_Mod_readCellOf_67 (by decide) (fun c22 => ?_) (fun c22 => ?_)
          ·
            exact absurd c22 (by decide)
          ·
            refine V_bipush 10 d_Mod_readCellOf_70 (by decide) ?_
            refine V_goto 76 d_Mod_readCellOf_72 (by decide) ?_
            refine N_callVI [.int 0, .int 10] [] cv_Mod_158 sk_116 rfl d_Mod_readCellOf_76 rfl (Nat.le_of_ble_eq_true rfl) (by decide) (by decide) (c_Mod_readNumberX h5 b (x_en b p0) hI7 0 0 tc_0 10 10 tc_10 s sZ sE (kn_call fh5 sK rfl) o9 o9Z o9E o9K o10 o10Z o10E o10K o11 o11Z o11E o11K o12 o12Z o12E o12K o13 o13Z o13E o13K o14 o14Z o14E o14K (TP_fr f8 (fun _ => rfl) hy0) (by (first | decide +kernel | with_reducible assumption | omega)) (Or.inl (by (first | decide +kernel | with_reducible assumption | omega)))) (fun z23 h24 z23Z z23E p25 => ?_)
            obtain ⟨hI26, fh24, o28, o28Z, o28E, o28K, o29, o29Z, o29E, o29K, o30, o30Z, o30E, o30K, o31, o31Z, o31E, o31K, o32, o32Z, o32E, o32K, o33, o33Z, o33E, o33K, p25⟩ := p25
            have f27 : fr S_Mod_readCellOfX_6 h h24 := fr_call f8 fh24 rfl
            have g34 : 0 ≤ o28Z ∧ o28Z ≤ 160 := inv_at hI26 o28E o28K.symm rfl
            have g35 : 0 ≤ o29Z ∧ o29Z ≤ 160 := inv_at hI26 o29E o29K.symm rfl
            refine V_istore_n 3 [some (.ref 116), some (.int 6), some (.int z4), some (.int z23), none] d_Mod_readCellOf_79 rfl (by decide) rfl rfl ?_
            refine V_iload_n 1 d_Mod_readCellOf_80 rfl rfl ?_
            refine V_iconst 4 d_Mod_readCellOf_81 (by decide) ?_
            refine V_icmp_ne 89 tc_6 tc_4 d_Mod_readCellOf_82 (by decide) (fun c36 => ?_) (fun c36 => ?_)
            ·
              refine V_iload_n 1 d_Mod_readCellOf_89 rfl rfl ?_
              refine V_bipush 6 d_Mod_readCellOf_90 (by decide) ?_
              refine V_icmp_ne 100 tc_6 tc_6 d_Mod_readCellOf_92 (by decide) (fun c37 => ?_) (fun c37 => ?_)
              ·
                exact absurd c37 (by decide)
              ·
                refine V_bipush 32 d_Mod_readCellOf_95 (by decide) ?_
                refine V_goto 102 d_Mod_readCellOf_97 (by decide) ?_
                refine V_istore 4 [some (.ref 116), some (.int 6), some (.int z4), some (.int z23), some (.int 32)] d_Mod_readCellOf_102 (by decide) rfl rfl ?_
                refine V_aload_n 0 d_Mod_readCellOf_104 rfl rfl ?_
                refine V_getR fa_Mod_17 sk_116 rfl d_Mod_readCellOf_105 ?_
                refine V_iload d_Mod_readCellOf_108 rfl ?_
                refine V_iload_n 2 d_Mod_readCellOf_110 rfl rfl ?_
                refine V_iadd tc_32 z4E (by (first | decide +kernel | with_reducible assumption | omega)) d_Mod_readCellOf_111 (fun z38 z38e z38E => ?_)
                refine V_aload_n 0 d_Mod_readCellOf_112 rfl rfl ?_
                refine N_getK fa_Mod_102 sk_116 rfl d_Mod_readCellOf_113 o32K ?_
                refine V_if_ne 123 o32E d_Mod_readCellOf_116 (by decide) (fun c39 => ?_) (fun c39 => ?_)
                ·
                  refine V_aload_n 0 d_Mod_readCellOf_123 rfl rfl ?_
                  refine V_getR fa_Mod_17 sk_116 rfl d_Mod_readCellOf_124 ?_
                  refine V_iload d_Mod_readCellOf_127 rfl ?_
                  refine V_iload_n 2 d_Mod_readCellOf_129 rfl rfl ?_
                  refine V_iadd tc_32 z4E (by (first | decide +kernel | with_reducible assumption | omega)) d_Mod_readCellOf_130 (fun z40 z40e z40E => ?_)
                  refine N_iald sk_119 z40E (by (first | decide +kernel | with_reducible assumption | omega)) d_Mod_readCellOf_131 (fun z41 z41Z z41E z41e => ?_)
                  refine N_iast sk_119 z38E (by (first | decide +kernel | with_reducible assumption | omega)) d_Mod_readCellOf_132 (fun h42 eh42 => ?_)
                  have hI43 : Inv h42 := inv_full hI26 eh42 (st_lo (by (first | decide +kernel | with_reducible assumption | omega)))
                  have f44 : fr S_Mod_readCellOfX_6 h h42 := fr_put f27 eh42 rfl
                  exact V_vret rfl d_Mod_readCellOf_133 ⟨rfl, ⟨hI43, f44, o28, o28Z, o28E, (kn_ne eh42 o28K (by decide)), o29, o29Z, o29E, (kn_ne eh42 o29K (by decide)), o30, o30Z, o30E, (kn_ne eh42 o30K (by decide)), o31, o31Z, o31E, (kn_ne eh42 o31K (by decide)), o32, o32Z, o32E, (kn_ne eh42 o32K (by decide)), o33, o33Z, o33E, (kn_ne eh42 o33K (by decide)), ⟨Or.inl ⟨by (first | decide +kernel | with_reducible assumption | omega), (show x_l3 b T p0 = (x_cN b p0 0 15, x_fr b p0) from by unfold x_l3; rw [x_sq_y (c := x_cN b p0 0 15) (by (first | decide +kernel | with_reducible assumption | omega))]).trans (pq (by (first | decide +kernel | with_reducible assumption | omega)) (by (first | decide +kernel | with_reducible assumption | omega)))⟩, by (first | decide +kernel | with_reducible assumption | omega), by (first | decide +kernel | with_reducible assumption | omega), by (first | decide +kernel | with_reducible assumption | omega)⟩⟩⟩
                ·
                  exact absurd c39 (by (first | decide +kernel | with_reducible assumption | omega))
            ·
              exact absurd c36 (by decide)
        ·
          exact absurd c21 (by decide)
      ·
        exact absurd c20 (by decide)
    ·
      exact absurd c19 (by decide)
  ·
    replace p6 := And.intro ((p6.1.resolve_left (fun q => by (first | decide +kernel | with_reducible assumption | omega))).resolve_right (fun q => by (first | decide +kernel | with_reducible assumption | omega))) p6.2
    have g45 := x_c4_s (T 3 (x_vl b p0))
    refine V_iload_n 1 d_Mod_readCellOf_8 rfl rfl ?_
    refine V_iconst 5 d_Mod_readCellOf_9 (by decide) ?_
    refine V_icmp_ne 43 tc_6 tc_5 d_Mod_readCellOf_10 (by decide) (fun c46 => ?_) (fun c46 => ?_)
    ·
      refine V_aload_n 0 d_Mod_readCellOf_43 rfl rfl ?_
      refine V_iload_n 1 d_Mod_readCellOf_44 rfl rfl ?_
      refine V_iconst 4 d_Mod_readCellOf_45 (by decide) ?_
      refine V_icmp_ne 53 tc_6 tc_4 d_Mod_readCellOf_46 (by decide) (fun c47 => ?_) (fun c47 => ?_)
      ·
        refine V_iconst 0 d_Mod_readCellOf_53 (by decide) ?_
        refine V_iload_n 1 d_Mod_readCellOf_54 rfl rfl ?_
        refine V_iconst 4 d_Mod_readCellOf_55 (by decide) ?_
        refine V_icmp_ne 64 tc_6 tc_4 d_Mod_readCellOf_56 (by decide) (fun c48 => ?_) (fun c48 => ?_)
        ·
          refine V_iload_n 1 d_Mod_readCellOf_64 rfl rfl ?_
          refine V_bipush 6 d_Mod_readCellOf_65 (by decide) ?_
          refine V_icmp_ne 75 tc_6 tc_6 d_Mod_readCellOf_67 (by decide) (fun c49 => ?_) (fun c49 => ?_)
          ·
            exact absurd c49 (by decide)
          ·
            refine V_bipush 10 d_Mod_readCellOf_70 (by decide) ?_
            refine V_goto 76 d_Mod_readCellOf_72 (by decide) ?_
            refine N_callVI [.int 0, .int 10] [] cv_Mod_158 sk_116 rfl d_Mod_readCellOf_76 rfl (Nat.le_of_ble_eq_true rfl) (by decide) (by decide) (c_Mod_readNumberX h5 b (x_en b p0) hI7 0 0 tc_0 10 10 tc_10 s sZ sE (kn_call fh5 sK rfl) o9 o9Z o9E o9K o10 o10Z o10E o10K o11 o11Z o11E o11K o12 o12Z o12E o12K o13 o13Z o13E o13K o14 o14Z o14E o14K (TP_fr f8 (fun _ => rfl) hy0) (by (first | decide +kernel | with_reducible assumption | omega)) (Or.inl (by (first | decide +kernel | with_reducible assumption | omega)))) (fun z50 h51 z50Z z50E p52 => ?_)
            obtain ⟨hI53, fh51, o55, o55Z, o55E, o55K, o56, o56Z, o56E, o56K, o57, o57Z, o57E, o57K, o58, o58Z, o58E, o58K, o59, o59Z, o59E, o59K, o60, o60Z, o60E, o60K, p52⟩ := p52
            have f54 : fr S_Mod_readCellOfX_6 h h51 := fr_call f8 fh51 rfl
            have g61 : 0 ≤ o55Z ∧ o55Z ≤ 160 := inv_at hI53 o55E o55K.symm rfl
            have g62 : 0 ≤ o56Z ∧ o56Z ≤ 160 := inv_at hI53 o56E o56K.symm rfl
            refine V_istore_n 3 [some (.ref 116), some (.int 6), some (.int z4), some (.int z50), none] d_Mod_readCellOf_79 rfl (by decide) rfl rfl ?_
            refine V_iload_n 1 d_Mod_readCellOf_80 rfl rfl ?_
            refine V_iconst 4 d_Mod_readCellOf_81 (by decide) ?_
            refine V_icmp_ne 89 tc_6 tc_4 d_Mod_readCellOf_82 (by decide) (fun c63 => ?_) (fun c63 => ?_)
            ·
              refine V_iload_n 1 d_Mod_readCellOf_89 rfl rfl ?_
              refine V_bipush 6 d_Mod_readCellOf_90 (by decide) ?_
              refine V_icmp_ne 100 tc_6 tc_6 d_Mod_readCellOf_92 (by decide) (fun c64 => ?_) (fun c64 => ?_)
              ·
                exact absurd c64 (by decide)
              ·
                refine V_bipush 32 d_Mod_readCellOf_95 (by decide) ?_
                refine V_goto 102 d_Mod_readCellOf_97 (by decide) ?_
                refine V_istore 4 [some (.ref 116), some (.int 6), some (.int z4), some (.int z50), some (.int 32)] d_Mod_readCellOf_102 (by decide) rfl rfl ?_
                refine V_aload_n 0 d_Mod_readCellOf_104 rfl rfl ?_
                refine V_getR fa_Mod_17 sk_116 rfl d_Mod_readCellOf_105 ?_
                refine V_iload d_Mod_readCellOf_108 rfl ?_
                refine V_iload_n 2 d_Mod_readCellOf_110 rfl rfl ?_
                refine V_iadd tc_32 z4E (by (first | decide +kernel | with_reducible assumption | omega)) d_Mod_readCellOf_111 (fun z65 z65e z65E => ?_)
                refine V_aload_n 0 d_Mod_readCellOf_112 rfl rfl ?_
                refine N_getK fa_Mod_102 sk_116 rfl d_Mod_readCellOf_113 o59K ?_
                refine V_if_ne 123 o59E d_Mod_readCellOf_116 (by decide) (fun c66 => ?_) (fun c66 => ?_)
                ·
                  refine V_aload_n 0 d_Mod_readCellOf_123 rfl rfl ?_
                  refine V_getR fa_Mod_17 sk_116 rfl d_Mod_readCellOf_124 ?_
                  refine V_iload d_Mod_readCellOf_127 rfl ?_
                  refine V_iload_n 2 d_Mod_readCellOf_129 rfl rfl ?_
                  refine V_iadd tc_32 z4E (by (first | decide +kernel | with_reducible assumption | omega)) d_Mod_readCellOf_130 (fun z67 z67e z67E => ?_)
                  refine N_iald sk_119 z67E (by (first | decide +kernel | with_reducible assumption | omega)) d_Mod_readCellOf_131 (fun z68 z68Z z68E z68e => ?_)
                  refine N_iast sk_119 z65E (by (first | decide +kernel | with_reducible assumption | omega)) d_Mod_readCellOf_132 (fun h69 eh69 => ?_)
                  have hI70 : Inv h69 := inv_full hI53 eh69 (st_lo (by (first | decide +kernel | with_reducible assumption | omega)))
                  have f71 : fr S_Mod_readCellOfX_6 h h69 := fr_put f54 eh69 rfl
                  exact V_vret rfl d_Mod_readCellOf_133 ⟨rfl, ⟨hI70, f71, o55, o55Z, o55E, (kn_ne eh69 o55K (by decide)), o56, o56Z, o56E, (kn_ne eh69 o56K (by decide)), o57, o57Z, o57E, (kn_ne eh69 o57K (by decide)), o58, o58Z, o58E, (kn_ne eh69 o58K (by decide)), o59, o59Z, o59E, (kn_ne eh69 o59K (by decide)), o60, o60Z, o60E, (kn_ne eh69 o60K (by decide)), ⟨Or.inl ⟨by (first | decide +kernel | with_reducible assumption | omega), (show x_l3 b T p0 = (x_c4 (T 3 (x_vl b p0)), x_fr b p0) from by unfold x_l3; rw [x_sq_n (c := x_cN b p0 0 15) (by (first | decide +kernel | with_reducible assumption | omega)), x_sq_y (c := x_c4 (T 3 (x_vl b p0))) (by (first | decide +kernel | with_reducible assumption | omega))]).trans (pq (by (first | decide +kernel | with_reducible assumption | omega)) (by (first | decide +kernel | with_reducible assumption | omega)))⟩, by (first | decide +kernel | with_reducible assumption | omega), by (first | decide +kernel | with_reducible assumption | omega), by (first | decide +kernel | with_reducible assumption | omega)⟩⟩⟩
                ·
                  exact absurd c66 (by (first | decide +kernel | with_reducible assumption | omega))
            ·
              exact absurd c63 (by decide)
        ·
          exact absurd c48 (by decide)
      ·
        exact absurd c47 (by decide)
    ·
      exact absurd c46 (by decide)
  ·
    replace p6 := And.intro (((p6.1.resolve_left (fun q => by (first | decide +kernel | with_reducible assumption | omega))).resolve_left (fun q => by (first | decide +kernel | with_reducible assumption | omega))).2.2.2.1.resolve_right (fun q => by (first | decide +kernel | with_reducible assumption | omega))) p6.2
    have g72 := x_cN_s b (x_en b p0) 0 10
    refine V_iload_n 1 d_Mod_readCellOf_8 rfl rfl ?_
    refine V_iconst 5 d_Mod_readCellOf_9 (by decide) ?_
    refine V_icmp_ne 43 tc_6 tc_5 d_Mod_readCellOf_10 (by decide) (fun c73 => ?_) (fun c73 => ?_)
    ·
      refine V_aload_n 0 d_Mod_readCellOf_43 rfl rfl ?_
      refine V_iload_n 1 d_Mod_readCellOf_44 rfl rfl ?_
      refine V_iconst 4 d_Mod_readCellOf_45 (by decide) ?_
      refine V_icmp_ne 53 tc_6 tc_4 d_Mod_readCellOf_46 (by decide) (fun c74 => ?_) (fun c74 => ?_)
      ·
        refine V_iconst 0 d_Mod_readCellOf_53 (by decide) ?_
        refine V_iload_n 1 d_Mod_readCellOf_54 rfl rfl ?_
        refine V_iconst 4 d_Mod_readCellOf_55 (by decide) ?_
        refine V_icmp_ne 64 tc_6 tc_4 d_Mod_readCellOf_56 (by decide) (fun c75 => ?_) (fun c75 => ?_)
        ·
          refine V_iload_n 1 d_Mod_readCellOf_64 rfl rfl ?_
          refine V_bipush 6 d_Mod_readCellOf_65 (by decide) ?_
          refine V_icmp_ne 75 tc_6 tc_6 d_Mod_readCellOf_67 (by decide) (fun c76 => ?_) (fun c76 => ?_)
          ·
            exact absurd c76 (by decide)
          ·
            refine V_bipush 10 d_Mod_readCellOf_70 (by decide) ?_
            refine V_goto 76 d_Mod_readCellOf_72 (by decide) ?_
            refine N_callVI [.int 0, .int 10] [] cv_Mod_158 sk_116 rfl d_Mod_readCellOf_76 rfl (Nat.le_of_ble_eq_true rfl) (by decide) (by decide) (c_Mod_readNumberX h5 b (x_en b p0) hI7 0 0 tc_0 10 10 tc_10 s sZ sE (kn_call fh5 sK rfl) o9 o9Z o9E o9K o10 o10Z o10E o10K o11 o11Z o11E o11K o12 o12Z o12E o12K o13 o13Z o13E o13K o14 o14Z o14E o14K (TP_fr f8 (fun _ => rfl) hy0) (by (first | decide +kernel | with_reducible assumption | omega)) (Or.inl (by (first | decide +kernel | with_reducible assumption | omega)))) (fun z77 h78 z77Z z77E p79 => ?_)
            obtain ⟨hI80, fh78, o82, o82Z, o82E, o82K, o83, o83Z, o83E, o83K, o84, o84Z, o84E, o84K, o85, o85Z, o85E, o85K, o86, o86Z, o86E, o86K, o87, o87Z, o87E, o87K, p79⟩ := p79
            have f81 : fr S_Mod_readCellOfX_6 h h78 := fr_call f8 fh78 rfl
            have g88 : 0 ≤ o82Z ∧ o82Z ≤ 160 := inv_at hI80 o82E o82K.symm rfl
            have g89 : 0 ≤ o83Z ∧ o83Z ≤ 160 := inv_at hI80 o83E o83K.symm rfl
            refine V_istore_n 3 [some (.ref 116), some (.int 6), some (.int z4), some (.int z77), none] d_Mod_readCellOf_79 rfl (by decide) rfl rfl ?_
            refine V_iload_n 1 d_Mod_readCellOf_80 rfl rfl ?_
            refine V_iconst 4 d_Mod_readCellOf_81 (by decide) ?_
            refine V_icmp_ne 89 tc_6 tc_4 d_Mod_readCellOf_82 (by decide) (fun c90 => ?_) (fun c90 => ?_)
            ·
              refine V_iload_n 1 d_Mod_readCellOf_89 rfl rfl ?_
              refine V_bipush 6 d_Mod_readCellOf_90 (by decide) ?_
              refine V_icmp_ne 100 tc_6 tc_6 d_Mod_readCellOf_92 (by decide) (fun c91 => ?_) (fun c91 => ?_)
              ·
                exact absurd c91 (by decide)
              ·
                refine V_bipush 32 d_Mod_readCellOf_95 (by decide) ?_
                refine V_goto 102 d_Mod_readCellOf_97 (by decide) ?_
                refine V_istore 4 [some (.ref 116), some (.int 6), some (.int z4), some (.int z77), some (.int 32)] d_Mod_readCellOf_102 (by decide) rfl rfl ?_
                refine V_aload_n 0 d_Mod_readCellOf_104 rfl rfl ?_
                refine V_getR fa_Mod_17 sk_116 rfl d_Mod_readCellOf_105 ?_
                refine V_iload d_Mod_readCellOf_108 rfl ?_
                refine V_iload_n 2 d_Mod_readCellOf_110 rfl rfl ?_
                refine V_iadd tc_32 z4E (by (first | decide +kernel | with_reducible assumption | omega)) d_Mod_readCellOf_111 (fun z92 z92e z92E => ?_)
                refine V_aload_n 0 d_Mod_readCellOf_112 rfl rfl ?_
                refine N_getK fa_Mod_102 sk_116 rfl d_Mod_readCellOf_113 o86K ?_
                refine V_if_ne 123 o86E d_Mod_readCellOf_116 (by decide) (fun c93 => ?_) (fun c93 => ?_)
                ·
                  refine V_aload_n 0 d_Mod_readCellOf_123 rfl rfl ?_
                  refine V_getR fa_Mod_17 sk_116 rfl d_Mod_readCellOf_124 ?_
                  refine V_iload d_Mod_readCellOf_127 rfl ?_
                  refine V_iload_n 2 d_Mod_readCellOf_129 rfl rfl ?_
                  refine V_iadd tc_32 z4E (by (first | decide +kernel | with_reducible assumption | omega)) d_Mod_readCellOf_130 (fun z94 z94e z94E => ?_)
                  refine N_iald sk_119 z94E (by (first | decide +kernel | with_reducible assumption | omega)) d_Mod_readCellOf_131 (fun z95 z95Z z95E z95e => ?_)
                  refine N_iast sk_119 z92E (by (first | decide +kernel | with_reducible assumption | omega)) d_Mod_readCellOf_132 (fun h96 eh96 => ?_)
                  have hI97 : Inv h96 := inv_full hI80 eh96 (st_lo (by (first | decide +kernel | with_reducible assumption | omega)))
                  have f98 : fr S_Mod_readCellOfX_6 h h96 := fr_put f81 eh96 rfl
                  exact V_vret rfl d_Mod_readCellOf_133 ⟨rfl, ⟨hI97, f98, o82, o82Z, o82E, (kn_ne eh96 o82K (by decide)), o83, o83Z, o83E, (kn_ne eh96 o83K (by decide)), o84, o84Z, o84E, (kn_ne eh96 o84K (by decide)), o85, o85Z, o85E, (kn_ne eh96 o85K (by decide)), o86, o86Z, o86E, (kn_ne eh96 o86K (by decide)), o87, o87Z, o87E, (kn_ne eh96 o87K (by decide)), ⟨Or.inl ⟨by (first | decide +kernel | with_reducible assumption | omega), (show x_l3 b T p0 = (x_cN b (x_en b p0) 0 10, x_fr b (x_en b p0)) from by unfold x_l3; rw [x_sq_n (c := x_cN b p0 0 15) (by (first | decide +kernel | with_reducible assumption | omega)), x_sq_n (c := x_c4 (T 3 (x_vl b p0))) (by (first | decide +kernel | with_reducible assumption | omega)), x_sq_y (c := x_cN b (x_en b p0) 0 10) (by (first | decide +kernel | with_reducible assumption | omega))]).trans (pq (by (first | decide +kernel | with_reducible assumption | omega)) (by (first | decide +kernel | with_reducible assumption | omega)))⟩, by (first | decide +kernel | with_reducible assumption | omega), by (first | decide +kernel | with_reducible assumption | omega), by (first | decide +kernel | with_reducible assumption | omega)⟩⟩⟩
                ·
                  exact absurd c93 (by (first | decide +kernel | with_reducible assumption | omega))
            ·
              exact absurd c90 (by decide)
        ·
          exact absurd c75 (by decide)
      ·
        exact absurd c74 (by decide)
    ·
      exact absurd c73 (by decide)
  ·
    obtain ⟨p61, p62, p63, p64, p6R⟩ := ((p6.1.resolve_left (fun q => by (first | decide +kernel | with_reducible assumption | omega))).resolve_left (fun q => by (first | decide +kernel | with_reducible assumption | omega)))
    replace p6 := And.intro (p64.resolve_left (fun q => by (first | decide +kernel | with_reducible assumption | omega))) p6.2
    clear p64
    refine V_iload_n 1 d_Mod_readCellOf_8 rfl rfl ?_
    refine V_iconst 5 d_Mod_readCellOf_9 (by decide) ?_
    refine V_icmp_ne 43 tc_6 tc_5 d_Mod_readCellOf_10 (by decide) (fun c99 => ?_) (fun c99 => ?_)
    ·
      refine V_aload_n 0 d_Mod_readCellOf_43 rfl rfl ?_
      refine V_iload_n 1 d_Mod_readCellOf_44 rfl rfl ?_
      refine V_iconst 4 d_Mod_readCellOf_45 (by decide) ?_
      refine V_icmp_ne 53 tc_6 tc_4 d_Mod_readCellOf_46 (by decide) (fun c100 => ?_) (fun c100 => ?_)
      ·
        refine V_iconst 0 d_Mod_readCellOf_53 (by decide) ?_
        refine V_iload_n 1 d_Mod_readCellOf_54 rfl rfl ?_
        refine V_iconst 4 d_Mod_readCellOf_55 (by decide) ?_
        refine V_icmp_ne 64 tc_6 tc_4 d_Mod_readCellOf_56 (by decide) (fun c101 => ?_) (fun c101 => ?_)
        ·
          refine V_iload_n 1 d_Mod_readCellOf_64 rfl rfl ?_
          refine V_bipush 6 d_Mod_readCellOf_65 (by decide) ?_
          refine V_icmp_ne 75 tc_6 tc_6 d_Mod_readCellOf_67 (by decide) (fun c102 => ?_) (fun c102 => ?_)
          ·
            exact absurd c102 (by decide)
          ·
            refine V_bipush 10 d_Mod_readCellOf_70 (by decide) ?_
            refine V_goto 76 d_Mod_readCellOf_72 (by decide) ?_
            refine N_callVI [.int 0, .int 10] [] cv_Mod_158 sk_116 rfl d_Mod_readCellOf_76 rfl (Nat.le_of_ble_eq_true rfl) (by decide) (by decide) (c_Mod_readNumberX h5 b (x_en b p0) hI7 0 0 tc_0 10 10 tc_10 s sZ sE (kn_call fh5 sK rfl) o9 o9Z o9E o9K o10 o10Z o10E o10K o11 o11Z o11E o11K o12 o12Z o12E o12K o13 o13Z o13E o13K o14 o14Z o14E o14K (TP_fr f8 (fun _ => rfl) hy0) (by (first | decide +kernel | with_reducible assumption | omega)) (Or.inr ⟨by (first | decide +kernel | with_reducible assumption | omega), by (first | decide +kernel | with_reducible assumption | omega), by (first | decide +kernel | with_reducible assumption | omega), by (first | decide +kernel | with_reducible assumption | omega), by (first | decide +kernel | with_reducible assumption | omega), by (first | decide +kernel | with_reducible assumption | omega), by (first | decide +kernel | with_reducible assumption | omega), by (first | decide +kernel | with_reducible assumption | omega), by (first | decide +kernel | with_reducible assumption | omega), by (first | decide +kernel | with_reducible assumption | omega), by (first | decide +kernel | with_reducible assumption | omega)⟩)) (fun z103 h104 z103Z z103E p105 => ?_)
            obtain ⟨hI106, fh104, o108, o108Z, o108E, o108K, o109, o109Z, o109E, o109K, o110, o110Z, o110E, o110K, o111, o111Z, o111E, o111K, o112, o112Z, o112E, o112K, o113, o113Z, o113E, o113K, p105⟩ := p105
            have f107 : fr S_Mod_readCellOfX_6 h h104 := fr_call f8 fh104 rfl
            have R114 : RM h104 (x_upT T 3 (x_vl b p0)) D := RM_fr fh104 rfl p6R
            have g115 : 0 ≤ o108Z ∧ o108Z ≤ 160 := inv_at hI106 o108E o108K.symm rfl
            have g116 : 0 ≤ o109Z ∧ o109Z ≤ 160 := inv_at hI106 o109E o109K.symm rfl
            rcases (dj3 _ _ : o112Z ≠ 0 ∧ x_cN b (x_en b p0) 0 10 ≠ 0 ∨ o112Z ≠ 0 ∧ x_cN b (x_en b p0) 0 10 = 0 ∨ o112Z = 0) with c117 | c117 | c117
            ·
              replace p105 := And.intro ((p105.1.resolve_left (fun q => by (first | decide +kernel | with_reducible assumption | omega))).resolve_right (fun q => by (first | decide +kernel | with_reducible assumption | omega))) p105.2
              have g118 := x_cN_s b (x_en b p0) 0 10
              have g119 := x_cS_s b (x_en b (x_en b p0))
              refine V_istore_n 3 [some (.ref 116), some (.int 6), some (.int z4), some (.int z103), none] d_Mod_readCellOf_79 rfl (by decide) rfl rfl ?_
              refine V_iload_n 1 d_Mod_readCellOf_80 rfl rfl ?_
              refine V_iconst 4 d_Mod_readCellOf_81 (by decide) ?_
              refine V_icmp_ne 89 tc_6 tc_4 d_Mod_readCellOf_82 (by decide) (fun c120 => ?_) (fun c120 => ?_)
              ·
                refine V_iload_n 1 d_Mod_readCellOf_89 rfl rfl ?_
                refine V_bipush 6 d_Mod_readCellOf_90 (by decide) ?_
                refine V_icmp_ne 100 tc_6 tc_6 d_Mod_readCellOf_92 (by decide) (fun c121 => ?_) (fun c121 => ?_)
                ·
                  exact absurd c121 (by decide)
                ·
                  refine V_bipush 32 d_Mod_readCellOf_95 (by decide) ?_
                  refine V_goto 102 d_Mod_readCellOf_97 (by decide) ?_
                  refine V_istore 4 [some (.ref 116), some (.int 6), some (.int z4), some (.int z103), some (.int 32)] d_Mod_readCellOf_102 (by decide) rfl rfl ?_
                  refine V_aload_n 0 d_Mod_readCellOf_104 rfl rfl ?_
                  refine V_getR fa_Mod_17 sk_116 rfl d_Mod_readCellOf_105 ?_
                  refine V_iload d_Mod_readCellOf_108 rfl ?_
                  refine V_iload_n 2 d_Mod_readCellOf_110 rfl rfl ?_
                  refine V_iadd tc_32 z4E (by (first | decide +kernel | with_reducible assumption | omega)) d_Mod_readCellOf_111 (fun z122 z122e z122E => ?_)
                  refine V_aload_n 0 d_Mod_readCellOf_112 rfl rfl ?_
                  refine N_getK fa_Mod_102 sk_116 rfl d_Mod_readCellOf_113 o112K ?_
                  refine V_if_ne 123 o112E d_Mod_readCellOf_116 (by decide) (fun c123 => ?_) (fun c123 => ?_)
                  ·
                    refine V_aload_n 0 d_Mod_readCellOf_123 rfl rfl ?_
                    refine V_getR fa_Mod_17 sk_116 rfl d_Mod_readCellOf_124 ?_
                    refine V_iload d_Mod_readCellOf_127 rfl ?_
                    refine V_iload_n 2 d_Mod_readCellOf_129 rfl rfl ?_
                    refine V_iadd tc_32 z4E (by (first | decide +kernel | with_reducible assumption | omega)) d_Mod_readCellOf_130 (fun z124 z124e z124E => ?_)
                    refine N_iald sk_119 z124E (by (first | decide +kernel | with_reducible assumption | omega)) d_Mod_readCellOf_131 (fun z125 z125Z z125E z125e => ?_)
                    refine N_iast sk_119 z122E (by (first | decide +kernel | with_reducible assumption | omega)) d_Mod_readCellOf_132 (fun h126 eh126 => ?_)
                    have hI127 : Inv h126 := inv_full hI106 eh126 (st_lo (by (first | decide +kernel | with_reducible assumption | omega)))
                    have f128 : fr S_Mod_readCellOfX_6 h h126 := fr_put f107 eh126 rfl
                    exact V_vret rfl d_Mod_readCellOf_133 ⟨rfl, ⟨hI127, f128, o108, o108Z, o108E, (kn_ne eh126 o108K (by decide)), o109, o109Z, o109E, (kn_ne eh126 o109K (by decide)), o110, o110Z, o110E, (kn_ne eh126 o110K (by decide)), o111, o111Z, o111E, (kn_ne eh126 o111K (by decide)), o112, o112Z, o112E, (kn_ne eh126 o112K (by decide)), o113, o113Z, o113E, (kn_ne eh126 o113K (by decide)), ⟨Or.inl ⟨by (first | decide +kernel | with_reducible assumption | omega), (show x_l3 b T p0 = (x_cN b (x_en b p0) 0 10, x_fr b (x_en b p0)) from by unfold x_l3; rw [x_sq_n (c := x_cN b p0 0 15) (by (first | decide +kernel | with_reducible assumption | omega)), x_sq_n (c := x_c4 (T 3 (x_vl b p0))) (by (first | decide +kernel | with_reducible assumption | omega)), x_sq_y (c := x_cN b (x_en b p0) 0 10) (by (first | decide +kernel | with_reducible assumption | omega))]).trans (pq (by (first | decide +kernel | with_reducible assumption | omega)) (by (first | decide +kernel | with_reducible assumption | omega)))⟩, by (first | decide +kernel | with_reducible assumption | omega), by (first | decide +kernel | with_reducible assumption | omega), by (first | decide +kernel | with_reducible assumption | omega)⟩⟩⟩
                  ·
                    exact absurd c123 (by (first | decide +kernel | with_reducible assumption | omega))
              ·
                exact absurd c120 (by decide)
            ·
              replace p105 := And.intro ((p105.1.resolve_left (fun q => by (first | decide +kernel | with_reducible assumption | omega))).resolve_left (fun q => by (first | decide +kernel | with_reducible assumption | omega))).2.1 (And.intro ((p105.1.resolve_left (fun q => by (first | decide +kernel | with_reducible assumption | omega))).resolve_left (fun q => by (first | decide +kernel | with_reducible assumption | omega))).2.2.1 (And.intro (((p105.1.resolve_left (fun q => by (first | decide +kernel | with_reducible assumption | omega))).resolve_left (fun q => by (first | decide +kernel | with_reducible assumption | omega))).2.2.2.resolve_right (fun q => by (first | decide +kernel | with_reducible assumption | omega))) p105.2))
              have g129 := x_cN_s b (x_en b p0) 0 10
              have g130 := x_cS_s b (x_en b (x_en b p0))
              refine V_istore_n 3 [some (.ref 116), some (.int 6), some (.int z4), some (.int z103), none] d_Mod_readCellOf_79 rfl (by decide) rfl rfl ?_
              refine V_iload_n 1 d_Mod_readCellOf_80 rfl rfl ?_
              refine V_iconst 4 d_Mod_readCellOf_81 (by decide) ?_
              refine V_icmp_ne 89 tc_6 tc_4 d_Mod_readCellOf_82 (by decide) (fun c131 => ?_) (fun c131 => ?_)
              ·
                refine V_iload_n 1 d_Mod_readCellOf_89 rfl rfl ?_
                refine V_bipush 6 d_Mod_readCellOf_90 (by decide) ?_
                refine V_icmp_ne 100 tc_6 tc_6 d_Mod_readCellOf_92 (by decide) (fun c132 => ?_) (fun c132 => ?_)
                ·
                  exact absurd c132 (by decide)
                ·
                  refine V_bipush 32 d_Mod_readCellOf_95 (by decide) ?_
                  refine V_goto 102 d_Mod_readCellOf_97 (by decide) ?_
                  refine V_istore 4 [some (.ref 116), some (.int 6), some (.int z4), some (.int z103), some (.int 32)] d_Mod_readCellOf_102 (by decide) rfl rfl ?_
                  refine V_aload_n 0 d_Mod_readCellOf_104 rfl rfl ?_
                  refine V_getR fa_Mod_17 sk_116 rfl d_Mod_readCellOf_105 ?_
                  refine V_iload d_Mod_readCellOf_108 rfl ?_
                  refine V_iload_n 2 d_Mod_readCellOf_110 rfl rfl ?_
                  refine V_iadd tc_32 z4E (by (first | decide +kernel | with_reducible assumption | omega)) d_Mod_readCellOf_111 (fun z133 z133e z133E => ?_)
                  refine V_aload_n 0 d_Mod_readCellOf_112 rfl rfl ?_
                  refine N_getK fa_Mod_102 sk_116 rfl d_Mod_readCellOf_113 o112K ?_
                  refine V_if_ne 123 o112E d_Mod_readCellOf_116 (by decide) (fun c134 => ?_) (fun c134 => ?_)
                  ·
                    refine V_aload_n 0 d_Mod_readCellOf_123 rfl rfl ?_
                    refine V_getR fa_Mod_17 sk_116 rfl d_Mod_readCellOf_124 ?_
                    refine V_iload d_Mod_readCellOf_127 rfl ?_
                    refine V_iload_n 2 d_Mod_readCellOf_129 rfl rfl ?_
                    refine V_iadd tc_32 z4E (by (first | decide +kernel | with_reducible assumption | omega)) d_Mod_readCellOf_130 (fun z135 z135e z135E => ?_)
                    refine N_iald sk_119 z135E (by (first | decide +kernel | with_reducible assumption | omega)) d_Mod_readCellOf_131 (fun z136 z136Z z136E z136e => ?_)
                    refine N_iast sk_119 z133E (by (first | decide +kernel | with_reducible assumption | omega)) d_Mod_readCellOf_132 (fun h137 eh137 => ?_)
                    have hI138 : Inv h137 := inv_full hI106 eh137 (st_lo (by (first | decide +kernel | with_reducible assumption | omega)))
                    have f139 : fr S_Mod_readCellOfX_6 h h137 := fr_put f107 eh137 rfl
                    exact V_vret rfl d_Mod_readCellOf_133 ⟨rfl, ⟨hI138, f139, o108, o108Z, o108E, (kn_ne eh137 o108K (by decide)), o109, o109Z, o109E, (kn_ne eh137 o109K (by decide)), o110, o110Z, o110E, (kn_ne eh137 o110K (by decide)), o111, o111Z, o111E, (kn_ne eh137 o111K (by decide)), o112, o112Z, o112E, (kn_ne eh137 o112K (by decide)), o113, o113Z, o113E, (kn_ne eh137 o113K (by decide)), ⟨Or.inl ⟨by (first | decide +kernel | with_reducible assumption | omega), (show x_l3 b T p0 = (x_cS b (x_en b (x_en b p0)), x_fr b (x_en b (x_en b p0))) from by unfold x_l3; rw [x_sq_n (c := x_cN b p0 0 15) (by (first | decide +kernel | with_reducible assumption | omega)), x_sq_n (c := x_c4 (T 3 (x_vl b p0))) (by (first | decide +kernel | with_reducible assumption | omega)), x_sq_n (c := x_cN b (x_en b p0) 0 10) (by (first | decide +kernel | with_reducible assumption | omega)), x_sq_y (c := x_cS b (x_en b (x_en b p0))) (by (first | decide +kernel | with_reducible assumption | omega))]).trans (pq (by (first | decide +kernel | with_reducible assumption | omega)) (by (first | decide +kernel | with_reducible assumption | omega)))⟩, by (first | decide +kernel | with_reducible assumption | omega), by (first | decide +kernel | with_reducible assumption | omega), by (first | decide +kernel | with_reducible assumption | omega)⟩⟩⟩
                  ·
                    exact absurd c134 (by (first | decide +kernel | with_reducible assumption | omega))
              ·
                exact absurd c131 (by decide)
            ·
              replace p105 := And.intro ((p105.1.resolve_left (fun q => by (first | decide +kernel | with_reducible assumption | omega))).resolve_left (fun q => by (first | decide +kernel | with_reducible assumption | omega))).2.1 (And.intro ((p105.1.resolve_left (fun q => by (first | decide +kernel | with_reducible assumption | omega))).resolve_left (fun q => by (first | decide +kernel | with_reducible assumption | omega))).2.2.1 (And.intro (((p105.1.resolve_left (fun q => by (first | decide +kernel | with_reducible assumption | omega))).resolve_left (fun q => by (first | decide +kernel | with_reducible assumption | omega))).2.2.2.resolve_left (fun q => by (first | decide +kernel | with_reducible assumption | omega))) p105.2))
              refine V_istore_n 3 [some (.ref 116), some (.int 6), some (.int z4), some (.int z103), none] d_Mod_readCellOf_79 rfl (by decide) rfl rfl ?_
              refine V_iload_n 1 d_Mod_readCellOf_80 rfl rfl ?_
              refine V_iconst 4 d_Mod_readCellOf_81 (by decide) ?_
              refine V_icmp_ne 89 tc_6 tc_4 d_Mod_readCellOf_82 (by decide) (fun c140 => ?_) (fun c140 => ?_)
              ·
                refine V_iload_n 1 d_Mod_readCellOf_89 rfl rfl ?_
                refine V_bipush 6 d_Mod_readCellOf_90 (by decide) ?_
                refine V_icmp_ne 100 tc_6 tc_6 d_Mod_readCellOf_92 (by decide) (fun c141 => ?_) (fun c141 => ?_)
                ·
                  exact absurd c141 (by decide)
                ·
                  refine V_bipush 32 d_Mod_readCellOf_95 (by decide) ?_
                  refine V_goto 102 d_Mod_readCellOf_97 (by decide) ?_
                  refine V_istore 4 [some (.ref 116), some (.int 6), some (.int z4), some (.int z103), some (.int 32)] d_Mod_readCellOf_102 (by decide) rfl rfl ?_
                  refine V_aload_n 0 d_Mod_readCellOf_104 rfl rfl ?_
                  refine V_getR fa_Mod_17 sk_116 rfl d_Mod_readCellOf_105 ?_
                  refine V_iload d_Mod_readCellOf_108 rfl ?_
                  refine V_iload_n 2 d_Mod_readCellOf_110 rfl rfl ?_
                  refine V_iadd tc_32 z4E (by (first | decide +kernel | with_reducible assumption | omega)) d_Mod_readCellOf_111 (fun z142 z142e z142E => ?_)
                  refine V_aload_n 0 d_Mod_readCellOf_112 rfl rfl ?_
                  refine N_getK fa_Mod_102 sk_116 rfl d_Mod_readCellOf_113 o112K ?_
                  refine V_if_ne 123 o112E d_Mod_readCellOf_116 (by decide) (fun c143 => ?_) (fun c143 => ?_)
                  ·
                    exact absurd c143 (by (first | decide +kernel | with_reducible assumption | omega))
                  ·
                    refine V_iload_n 3 d_Mod_readCellOf_119 rfl rfl ?_
                    refine V_goto 132 d_Mod_readCellOf_120 (by decide) ?_
                    refine N_iast sk_119 z142E (by (first | decide +kernel | with_reducible assumption | omega)) d_Mod_readCellOf_132 (fun h144 eh144 => ?_)
                    have hI145 : Inv h144 := inv_full hI106 eh144 (st_lo (by (first | decide +kernel | with_reducible assumption | omega)))
                    have f146 : fr S_Mod_readCellOfX_6 h h144 := fr_put f107 eh144 rfl
                    have R147 : RM h144 (x_upT T 3 (x_vl b p0)) (x_up D (32 + (x_vl b p0)) (x_vl b (x_en b p0))) := RM_put R114 eh144 (Or.inl ⟨rfl, by (first | decide +kernel | with_reducible assumption | omega), rfl⟩) (z103E.trans (by (first | decide +kernel | with_reducible assumption | omega))) (by (first | decide +kernel | with_reducible assumption | omega))
                    exact V_vret rfl d_Mod_readCellOf_133 ⟨rfl, ⟨hI145, f146, o108, o108Z, o108E, (kn_ne eh144 o108K (by decide)), o109, o109Z, o109E, (kn_ne eh144 o109K (by decide)), o110, o110Z, o110E, (kn_ne eh144 o110K (by decide)), o111, o111Z, o111E, (kn_ne eh144 o111K (by decide)), o112, o112Z, o112E, (kn_ne eh144 o112K (by decide)), o113, o113Z, o113E, (kn_ne eh144 o113K (by decide)), ⟨Or.inr ⟨by (first | decide +kernel | with_reducible assumption | omega), by unfold x_l3; rw [x_sq_n (c := x_cN b p0 0 15) (by (first | decide +kernel | with_reducible assumption | omega)), x_sq_n (c := x_c4 (T 3 (x_vl b p0))) (by (first | decide +kernel | with_reducible assumption | omega)), x_sq_n (c := x_cN b (x_en b p0) 0 10) (by (first | decide +kernel | with_reducible assumption | omega))], p105.2.2.1.2, R147⟩, by (first | decide +kernel | with_reducible assumption | omega), by (first | decide +kernel | with_reducible assumption | omega), by (first | decide +kernel | with_reducible assumption | omega)⟩⟩⟩
              ·
                exact absurd c140 (by decide)
        ·
          exact absurd c101 (by decide)
      ·
        exact absurd c100 (by decide)
    ·
      exact absurd c99 (by decide)
def S_Mod_readCellOfX_7 : List (Nat × Option Nat) := [(116, some 16), (116, some 17), (116, some 18), (116, some 19), (116, some 20), (116, some 21), (119, none), (120, some 3), (116, some 13)]
abbrev q_Mod_readCellOfX_7 (h : Hp) (b : Int → Int) (T : Nat → Int → Int) (D : Nat → Int) (p0 : Int) (s : Int32) (sZ : Int) (p : Int32) (pZ : Int) (g : Int32) (gZ : Int) (k : Int32) (kZ : Int) (v : Int32) (vZ : Int) (w : Int32) (wZ : Int) (a : Int32) (aZ : Int) (z : Int32) (zZ : Int) (i : Int32) (iZ : Int) : Option Value → Hp → Prop := pVd (fun h' => Inv h' ∧ fr S_Mod_readCellOfX_7 h h' ∧ ∃ (q : Int32) (qZ : Int), q.toInt = qZ ∧ h'.1 116 16 = q ∧ ∃ (f : Int32) (fZ : Int), f.toInt = fZ ∧ h'.1 116 17 = f ∧ ∃ (m : Int32) (mZ : Int), m.toInt = mZ ∧ h'.1 116 18 = m ∧ ∃ (x : Int32) (xZ : Int), x.toInt = xZ ∧ h'.1 116 19 = x ∧ ∃ (u : Int32) (uZ : Int), u.toInt = uZ ∧ h'.1 116 20 = u ∧ ∃ (y : Int32) (yZ : Int), y.toInt = yZ ∧ h'.1 116 21 = y ∧ ((uZ ≠ 0 ∧ x_l4 b T p0 = (uZ, yZ) ∨ uZ = 0 ∧ x_l4 b T p0 = x_sq (x_cS b (x_en b (x_en b p0))) (x_fr b (x_en b (x_en b p0))) (0, x_en b (x_en b (x_en b p0))) ∧ (fZ = x_fr b (x_en b (x_en b p0)) ∧ mZ = x_kd b (x_en b (x_en b p0)) ∧ mZ ≠ 4 ∧ 0 ≤ mZ ∧ mZ ≤ 3 ∧ qZ = x_en b (x_en b (x_en b p0)) ∧ (mZ ≠ 2 ∨ xZ = x_vl b (x_en b (x_en b p0)) ∧ 0 ≤ xZ ∧ xZ ≤ 99) ∧ (x_en b (x_en b p0)) ≤ fZ ∧ fZ ≤ qZ ∧ qZ ≤ sZ ∧ (mZ = 0 ∨ fZ < qZ)) ∧ RM h' (x_upT T 4 (x_vl b p0)) (x_up D (48 + (x_vl b p0)) (x_vl b (x_en b p0)))) ∧ 0 ≤ qZ ∧ qZ ≤ sZ ∧ 0 ≤ uZ))
set_option maxRecDepth 100000 in
theorem c_Mod_readCellOfX_7 (h : Hp) (b : Int → Int) (T : Nat → Int → Int) (D : Nat → Int) (p0 : Int) (hI : Inv h) (s : Int32) (sZ : Int) (sE : s.toInt = sZ) (sK : h.1 116 15 = s) (p : Int32) (pZ : Int) (pE : p.toInt = pZ) (pK : h.1 116 16 = p) (g : Int32) (gZ : Int) (gE : g.toInt = gZ) (gK : h.1 116 17 = g) (k : Int32) (kZ : Int) (kE : k.toInt = kZ) (kK : h.1 116 18 = k) (v : Int32) (vZ : Int) (vE : v.toInt = vZ) (vK : h.1 116 19 = v) (w : Int32) (wZ : Int) (wE : w.toInt = wZ) (wK : h.1 116 20 = w) (a : Int32) (aZ : Int) (aE : a.toInt = aZ) (aK : h.1 116 21 = a) (z : Int32) (zZ : Int) (zE : z.toInt = zZ) (zK : h.1 120 3 = z) (i : Int32) (iZ : Int) (iE : i.toInt = iZ) (iK : h.1 116 13 = i) (hy0 : TP h 121 sZ b) (hy1 : 0 ≤ pZ ∧ pZ ≤ sZ ∧ wZ = 0) (hy2 : gZ = x_fr b p0 ∧ kZ = x_kd b p0 ∧ kZ ≠ 4 ∧ 0 ≤ kZ ∧ kZ ≤ 3 ∧ pZ = x_en b p0 ∧ (kZ ≠ 2 ∨ vZ = x_vl b p0 ∧ 0 ≤ vZ ∧ vZ ≤ 99) ∧ p0 ≤ gZ ∧ gZ ≤ pZ ∧ pZ ≤ sZ ∧ (kZ = 0 ∨ gZ < pZ)) (hy3 : RM h T D) : Ct y_Mod_readCellOf b_Mod_readCellOf 5 none 3 70 [.ref 116, .int 7] h (q_Mod_readCellOfX_7 h b T D p0 s sZ p pZ g gZ k kZ v vZ w wZ a aZ z zZ i iZ) := by
  refine ct_ow R_Mod [some (.ref 116), some (.int 7), none, none, none] rfl (by decide) rfl (Nat.le_of_ble_eq_true rfl) ?_
  have f0 : fr S_Mod_readCellOfX_7 h h := fr_rf
  have g1 : 0 ≤ sZ ∧ sZ ≤ 160 := inv_at hI sE sK.symm rfl
  have g2 : 0 ≤ pZ ∧ pZ ≤ 160 := inv_at hI pE pK.symm rfl
  have g3 : 0 ≤ gZ ∧ gZ ≤ 160 := inv_at hI gE gK.symm rfl
  refine V_aload_n 0 d_Mod_readCellOf_0 rfl rfl ?_
  refine V_iload_n 1 d_Mod_readCellOf_1 rfl rfl ?_
  refine V_bipush 15 d_Mod_readCellOf_2 (by decide) ?_
  refine N_callVI [.int 7, .int 15] [] cv_Mod_161 sk_116 rfl d_Mod_readCellOf_4 rfl (Nat.le_of_ble_eq_true rfl) (by decide) (by decide) (c_Mod_readFreshX_7 h b T D p0 hI s sZ sE sK p pZ pE pK g gZ gE gK k kZ kE kK v vZ vE vK w wZ wE wK a aZ aE aK z zZ zE zK i iZ iE iK (TP_fr f0 (fun _ => rfl) hy0) (by (first | decide +kernel | with_reducible assumption | omega)) ⟨by (first | decide +kernel | with_reducible assumption | omega), by (first | decide +kernel | with_reducible assumption | omega), by (first | decide +kernel | with_reducible assumption | omega), by (first | decide +kernel | with_reducible assumption | omega), by (first | decide +kernel | with_reducible assumption | omega), by (first | decide +kernel | with_reducible assumption | omega), by (first | decide +kernel | with_reducible assumption | omega), by (first | decide +kernel | with_reducible assumption | omega), by (first | decide +kernel | with_reducible assumption | omega), by (first | decide +kernel | with_reducible assumption | omega), by (first | decide +kernel | with_reducible assumption | omega)⟩ hy3) (fun z4 h5 z4Z z4E p6 => ?_)
  obtain ⟨hI7, fh5, o9, o9Z, o9E, o9K, o10, o10Z, o10E, o10K, o11, o11Z, o11E, o11K, o12, o12Z, o12E, o12K, o13, o13Z, o13E, o13K, o14, o14Z, o14E, o14K, p6⟩ := p6
  have f8 : fr S_Mod_readCellOfX_7 h h5 := fr_call f0 fh5 rfl
  have g15 : 0 ≤ o9Z ∧ o9Z ≤ 160 := inv_at hI7 o9E o9K.symm rfl
  have g16 : 0 ≤ o10Z ∧ o10Z ≤ 160 := inv_at hI7 o10E o10K.symm rfl
  refine V_istore_n 2 [some (.ref 116), some (.int 7), some (.int z4), none, none] d_Mod_readCellOf_7 rfl (by decide) rfl rfl ?_
  rcases (dj4 _ _ _ : o13Z ≠ 0 ∧ x_cN b p0 0 15 ≠ 0 ∨ o13Z ≠ 0 ∧ x_cN b p0 0 15 = 0 ∧ x_c4 (T 4 (x_vl b p0)) ≠ 0 ∨ o13Z ≠ 0 ∧ x_cN b p0 0 15 = 0 ∧ x_c4 (T 4 (x_vl b p0)) = 0 ∨ o13Z = 0) with c17 | c17 | c17 | c17
  ·
    replace p6 := And.intro (p6.1.resolve_right (fun q => by (first | decide +kernel | with_reducible assumption | omega))) p6.2
    have g18 := x_cN_s b p0 0 15
    refine V_iload_n 1 d_Mod_readCellOf_8 rfl rfl ?_
    refine V_iconst 5 d_Mod_readCellOf_9 (by decide) ?_
    refine V_icmp_ne 43 tc_7 tc_5 d_Mod_readCellOf_10 (by decide) (fun c19 => ?_) (fun c19 => ?_)
    ·
      refine V_aload_n 0 d_Mod_readCellOf_43 rfl rfl ?_
      refine V_iload_n 1 d_Mod_readCellOf_44 rfl rfl ?_
      refine V_iconst 4 d_Mod_readCellOf_45 (by decide) ?_
      refine V_icmp_ne 53 tc_7 tc_4 d_Mod_readCellOf_46 (by decide) (fun c20 => ?_) (fun c20 => ?_)
      ·
        refine V_iconst 0 d_Mod_readCellOf_53 (by decide) ?_
        refine V_iload_n 1 d_Mod_readCellOf_54 rfl rfl ?_
        refine V_iconst 4 d_Mod_readCellOf_55 (by decide) ?_
        refine V_icmp_ne 64 tc_7 tc_4 d_Mod_readCellOf_56 (by decide) (fun c21 => ?_) (fun c21 => ?_)
        ·
          refine V_iload_n 1 d_Mod_readCellOf_64 rfl rfl ?_
          refine V_bipush 6 d_Mod_readCellOf_65 (by decide) ?_
          refine V_icmp_ne 75 tc_7 tc_6 d_Mod_readCellOf_67 (by decide) (fun c22 => ?_) (fun c22 => ?_)
          ·
            refine V_iconst 3 d_Mod_readCellOf_75 (by decide) ?_
            refine N_callVI [.int 0, .int 3] [] cv_Mod_158 sk_116 rfl d_Mod_readCellOf_76 rfl (Nat.le_of_ble_eq_true rfl) (by decide) (by decide) (c_Mod_readNumberX h5 b (x_en b p0) hI7 0 0 tc_0 3 3 tc_3 s sZ sE (kn_call fh5 sK rfl) o9 o9Z o9E o9K o10 o10Z o10E o10K o11 o11Z o11E o11K o12 o12Z o12E o12K o13 o13Z o13E o13K o14 o14Z o14E o14K (TP_fr f8 (fun _ => rfl) hy0) (by (first | decide +kernel | with_reducible assumption | omega)) (Or.inl (by (first | decide +kernel | with_reducible assumption | omega)))) (fun z23 h24 z23Z z23E p25 => ?_)
            obtain ⟨hI26, fh24, o28, o28Z, o28E, o28K, o29, o29Z, o29E, o29K, o30, o30Z, o30E, o30K, o31, o31Z, o31E, o31K, o32, o32Z, o32E, o32K, o33, o33Z, o33E, o33K, p25⟩ := p25
            have f27 : fr S_Mod_readCellOfX_7 h h24 := fr_call f8 fh24 rfl
            have g34 : 0 ≤ o28Z ∧ o28Z ≤ 160 := inv_at hI26 o28E o28K.symm rfl
            have g35 : 0 ≤ o29Z ∧ o29Z ≤ 160 := inv_at hI26 o29E o29K.symm rfl
            refine V_istore_n 3 [some (.ref 116), some (.int 7), some (.int z4), some (.int z23), none] d_Mod_readCellOf_79 rfl (by decide) rfl rfl ?_
            refine V_iload_n 1 d_Mod_readCellOf_80 rfl rfl ?_
            refine V_iconst 4 d_Mod_readCellOf_81 (by decide) ?_
            refine V_icmp_ne 89 tc_7 tc_4 d_Mod_readCellOf_82 (by decide) (fun c36 => ?_) (fun c36 => ?_)
            ·
              refine V_iload_n 1 d_Mod_readCellOf_89 rfl rfl ?_
              refine V_bipush 6 d_Mod_readCellOf_90 (by decide) ?_
              refine V_icmp_ne 100 tc_7 tc_6 d_Mod_readCellOf_92 (by decide) (fun c37 => ?_) (fun c37 => ?_)
              ·
                refine V_bipush 48 d_Mod_readCellOf_100 (by decide) ?_
                refine V_istore 4 [some (.ref 116), some (.int 7), some (.int z4), some (.int z23), some (.int 48)] d_Mod_readCellOf_102 (by decide) rfl rfl ?_
                refine V_aload_n 0 d_Mod_readCellOf_104 rfl rfl ?_
                refine V_getR fa_Mod_17 sk_116 rfl d_Mod_readCellOf_105 ?_
                refine V_iload d_Mod_readCellOf_108 rfl ?_
                refine V_iload_n 2 d_Mod_readCellOf_110 rfl rfl ?_
                refine V_iadd tc_48 z4E (by (first | decide +kernel | with_reducible assumption | omega)) d_Mod_readCellOf_111 (fun z38 z38e z38E => ?_)
                refine V_aload_n 0 d_Mod_readCellOf_112 rfl rfl ?_
                refine N_getK fa_Mod_102 sk_116 rfl d_Mod_readCellOf_113 o32K ?_
                refine V_if_ne 123 o32E d_Mod_readCellOf_116 (by decide) (fun c39 => ?_) (fun c39 => ?_)
                ·
                  refine V_aload_n 0 d_Mod_readCellOf_123 rfl rfl ?_
                  refine V_getR fa_Mod_17 sk_116 rfl d_Mod_readCellOf_124 ?_
                  refine V_iload d_Mod_readCellOf_127 rfl ?_
                  refine V_iload_n 2 d_Mod_readCellOf_129 rfl rfl ?_
                  refine V_iadd tc_48 z4E (by (first | decide +kernel | with_reducible assumption | omega)) d_Mod_readCellOf_130 (fun z40 z40e z40E => ?_)
                  refine N_iald sk_119 z40E (by (first | decide +kernel | with_reducible assumption | omega)) d_Mod_readCellOf_131 (fun z41 z41Z z41E z41e => ?_)
                  refine N_iast sk_119 z38E (by (first | decide +kernel | with_reducible assumption | omega)) d_Mod_readCellOf_132 (fun h42 eh42 => ?_)
                  have hI43 : Inv h42 := inv_full hI26 eh42 (st_lo (by (first | decide +kernel | with_reducible assumption | omega)))
                  have f44 : fr S_Mod_readCellOfX_7 h h42 := fr_put f27 eh42 rfl
                  exact V_vret rfl d_Mod_readCellOf_133 ⟨rfl, ⟨hI43, f44, o28, o28Z, o28E, (kn_ne eh42 o28K (by decide)), o29, o29Z, o29E, (kn_ne eh42 o29K (by decide)), o30, o30Z, o30E, (kn_ne eh42 o30K (by decide)), o31, o31Z, o31E, (kn_ne eh42 o31K (by decide)), o32, o32Z, o32E, (kn_ne eh42 o32K (by decide)), o33, o33Z, o33E, (kn_ne eh42 o33K (by decide)), ⟨Or.inl ⟨by (first | decide +kernel | with_reducible assumption | omega), (show x_l4 b T p0 = (x_cN b p0 0 15, x_fr b p0) from by unfold x_l4; rw [x_sq_y (c := x_cN b p0 0 15) (by (first | decide +kernel | with_reducible assumption | omega))]).trans (pq (by (first | decide +kernel | with_reducible assumption | omega)) (by (first | decide +kernel | with_reducible assumption | omega)))⟩, by (first | decide +kernel | with_reducible assumption | omega), by (first | decide +kernel | with_reducible assumption | omega), by (first | decide +kernel | with_reducible assumption | omega)⟩⟩⟩
                ·
                  exact absurd c39 (by (first | decide +kernel | with_reducible assumption | omega))
              ·
                exact absurd c37 (by decide)
            ·
              exact absurd c36 (by decide)
          ·
            exact absurd c22 (by decide)
        ·
          exact absurd c21 (by decide)
      ·
        exact absurd c20 (by decide)
    ·
      exact absurd c19 (by decide)
  ·
    replace p6 := And.intro ((p6.1.resolve_left (fun q => by (first | decide +kernel | with_reducible assumption | omega))).resolve_right (fun q => by (first | decide +kernel | with_reducible assumption | omega))) p6.2
    have g45 := x_c4_s (T 4 (x_vl b p0))
    refine V_iload_n 1 d_Mod_readCellOf_8 rfl rfl ?_
    refine V_iconst 5 d_Mod_readCellOf_9 (by decide) ?_
    refine V_icmp_ne 43 tc_7 tc_5 d_Mod_readCellOf_10 (by decide) (fun c46 => ?_) (fun c46 => ?_)
    ·
      refine V_aload_n 0 d_Mod_readCellOf_43 rfl rfl ?_
      refine V_iload_n 1 d_Mod_readCellOf_44 rfl rfl ?_
      refine V_iconst 4 d_Mod_readCellOf_45 (by decide) ?_
      refine V_icmp_ne 53 tc_7 tc_4 d_Mod_readCellOf_46 (by decide) (fun c47 => ?_) (fun c47 => ?_)
      ·
        refine V_iconst 0 d_Mod_readCellOf_53 (by decide) ?_
        refine V_iload_n 1 d_Mod_readCellOf_54 rfl rfl ?_
        refine V_iconst 4 d_Mod_readCellOf_55 (by decide) ?_
        refine V_icmp_ne 64 tc_7 tc_4 d_Mod_readCellOf_56 (by decide) (fun c48 => ?_) (fun c48 => ?_)
        ·
          refine V_iload_n 1 d_Mod_readCellOf_64 rfl rfl ?_
          refine V_bipush 6 d_Mod_readCellOf_65 (by decide) ?_
          refine V_icmp_ne 75 tc_7 tc_6 d_Mod_readCellOf_67 (by decide) (fun c49 => ?_) (fun c49 => ?_)
          ·
            refine V_iconst 3 d_Mod_readCellOf_75 (by decide) ?_
            refine N_callVI [.int 0, .int 3] [] cv_Mod_158 sk_116 rfl d_Mod_readCellOf_76 rfl (Nat.le_of_ble_eq_true rfl) (by decide) (by decide) (c_Mod_readNumberX h5 b (x_en b p0) hI7 0 0 tc_0 3 3 tc_3 s sZ sE (kn_call fh5 sK rfl) o9 o9Z o9E o9K o10 o10Z o10E o10K o11 o11Z o11E o11K o12 o12Z o12E o12K o13 o13Z o13E o13K o14 o14Z o14E o14K (TP_fr f8 (fun _ => rfl) hy0) (by (first | decide +kernel | with_reducible assumption | omega)) (Or.inl (by (first | decide +kernel | with_reducible assumption | omega)))) (fun z50 h51 z50Z z50E p52 => ?_)
            obtain ⟨hI53, fh51, o55, o55Z, o55E, o55K, o56, o56Z, o56E, o56K, o57, o57Z, o57E, o57K, o58, o58Z, o58E, o58K, o59, o59Z, o59E, o59K, o60, o60Z, o60E, o60K, p52⟩ := p52
            have f54 : fr S_Mod_readCellOfX_7 h h51 := fr_call f8 fh51 rfl
            have g61 : 0 ≤ o55Z ∧ o55Z ≤ 160 := inv_at hI53 o55E o55K.symm rfl
            have g62 : 0 ≤ o56Z ∧ o56Z ≤ 160 := inv_at hI53 o56E o56K.symm rfl
            refine V_istore_n 3 [some (.ref 116), some (.int 7), some (.int z4), some (.int z50), none] d_Mod_readCellOf_79 rfl (by decide) rfl rfl ?_
            refine V_iload_n 1 d_Mod_readCellOf_80 rfl rfl ?_
            refine V_iconst 4 d_Mod_readCellOf_81 (by decide) ?_
            refine V_icmp_ne 89 tc_7 tc_4 d_Mod_readCellOf_82 (by decide) (fun c63 => ?_) (fun c63 => ?_)
            ·
              refine V_iload_n 1 d_Mod_readCellOf_89 rfl rfl ?_
              refine V_bipush 6 d_Mod_readCellOf_90 (by decide) ?_
              refine V_icmp_ne 100 tc_7 tc_6 d_Mod_readCellOf_92 (by decide) (fun c64 => ?_) (fun c64 => ?_)
              ·
                refine V_bipush 48 d_Mod_readCellOf_100 (by decide) ?_
                refine V_istore 4 [some (.ref 116), some (.int 7), some (.int z4), some (.int z50), some (.int 48)] d_Mod_readCellOf_102 (by decide) rfl rfl ?_
                refine V_aload_n 0 d_Mod_readCellOf_104 rfl rfl ?_
                refine V_getR fa_Mod_17 sk_116 rfl d_Mod_readCellOf_105 ?_
                refine V_iload d_Mod_readCellOf_108 rfl ?_
                refine V_iload_n 2 d_Mod_readCellOf_110 rfl rfl ?_
                refine V_iadd tc_48 z4E (by (first | decide +kernel | with_reducible assumption | omega)) d_Mod_readCellOf_111 (fun z65 z65e z65E => ?_)
                refine V_aload_n 0 d_Mod_readCellOf_112 rfl rfl ?_
                refine N_getK fa_Mod_102 sk_116 rfl d_Mod_readCellOf_113 o59K ?_
                refine V_if_ne 123 o59E d_Mod_readCellOf_116 (by decide) (fun c66 => ?_) (fun c66 => ?_)
                ·
                  refine V_aload_n 0 d_Mod_readCellOf_123 rfl rfl ?_
                  refine V_getR fa_Mod_17 sk_116 rfl d_Mod_readCellOf_124 ?_
                  refine V_iload d_Mod_readCellOf_127 rfl ?_
                  refine V_iload_n 2 d_Mod_readCellOf_129 rfl rfl ?_
                  refine V_iadd tc_48 z4E (by (first | decide +kernel | with_reducible assumption | omega)) d_Mod_readCellOf_130 (fun z67 z67e z67E => ?_)
                  refine N_iald sk_119 z67E (by (first | decide +kernel | with_reducible assumption | omega)) d_Mod_readCellOf_131 (fun z68 z68Z z68E z68e => ?_)
                  refine N_iast sk_119 z65E (by (first | decide +kernel | with_reducible assumption | omega)) d_Mod_readCellOf_132 (fun h69 eh69 => ?_)
                  have hI70 : Inv h69 := inv_full hI53 eh69 (st_lo (by (first | decide +kernel | with_reducible assumption | omega)))
                  have f71 : fr S_Mod_readCellOfX_7 h h69 := fr_put f54 eh69 rfl
                  exact V_vret rfl d_Mod_readCellOf_133 ⟨rfl, ⟨hI70, f71, o55, o55Z, o55E, (kn_ne eh69 o55K (by decide)), o56, o56Z, o56E, (kn_ne eh69 o56K (by decide)), o57, o57Z, o57E, (kn_ne eh69 o57K (by decide)), o58, o58Z, o58E, (kn_ne eh69 o58K (by decide)), o59, o59Z, o59E, (kn_ne eh69 o59K (by decide)), o60, o60Z, o60E, (kn_ne eh69 o60K (by decide)), ⟨Or.inl ⟨by (first | decide +kernel | with_reducible assumption | omega), (show x_l4 b T p0 = (x_c4 (T 4 (x_vl b p0)), x_fr b p0) from by unfold x_l4; rw [x_sq_n (c := x_cN b p0 0 15) (by (first | decide +kernel | with_reducible assumption | omega)), x_sq_y (c := x_c4 (T 4 (x_vl b p0))) (by (first | decide +kernel | with_reducible assumption | omega))]).trans (pq (by (first | decide +kernel | with_reducible assumption | omega)) (by (first | decide +kernel | with_reducible assumption | omega)))⟩, by (first | decide +kernel | with_reducible assumption | omega), by (first | decide +kernel | with_reducible assumption | omega), by (first | decide +kernel | with_reducible assumption | omega)⟩⟩⟩
                ·
                  exact absurd c66 (by (first | decide +kernel | with_reducible assumption | omega))
              ·
                exact absurd c64 (by decide)
            ·
              exact absurd c63 (by decide)
          ·
            exact absurd c49 (by decide)
        ·
          exact absurd c48 (by decide)
      ·
        exact absurd c47 (by decide)
    ·
      exact absurd c46 (by decide)
  ·
    replace p6 := And.intro (((p6.1.resolve_left (fun q => by (first | decide +kernel | with_reducible assumption | omega))).resolve_left (fun q => by (first | decide +kernel | with_reducible assumption | omega))).2.2.2.1.resolve_right (fun q => by (first | decide +kernel | with_reducible assumption | omega))) p6.2
    have g72 := x_cN_s b (x_en b p0) 0 3
    refine V_iload_n 1 d_Mod_readCellOf_8 rfl rfl ?_
    refine V_iconst 5 d_Mod_readCellOf_9 (by decide) ?_
    refine V_icmp_ne 43 tc_7 tc_5 d_Mod_readCellOf_10 (by decide) (fun c73 => ?_) (fun c73 => ?_)
    ·
      refine V_aload_n 0 d_Mod_readCellOf_43 rfl rfl ?_
      refine V_iload_n 1 d_Mod_readCellOf_44 rfl rfl ?_
      refine V_iconst 4 d_Mod_readCellOf_45 (by decide) ?_
      refine V_icmp_ne 53 tc_7 tc_4 d_Mod_readCellOf_46 (by decide) (fun c74 => ?_) (fun c74 => ?_)
      ·
        refine V_iconst 0 d_Mod_readCellOf_53 (by decide) ?_
        refine V_iload_n 1 d_Mod_readCellOf_54 rfl rfl ?_
        refine V_iconst 4 d_Mod_readCellOf_55 (by decide) ?_
        refine V_icmp_ne 64 tc_7 tc_4 d_Mod_readCellOf_56 (by decide) (fun c75 => ?_) (fun c75 => ?_)
        ·
          refine V_iload_n 1 d_Mod_readCellOf_64 rfl rfl ?_
          refine V_bipush 6 d_Mod_readCellOf_65 (by decide) ?_
          refine V_icmp_ne 75 tc_7 tc_6 d_Mod_readCellOf_67 (by decide) (fun c76 => ?_) (fun c76 => ?_)
          ·
            refine V_iconst 3 d_Mod_readCellOf_75 (by decide) ?_
            refine N_callVI [.int 0, .int 3] [] cv_Mod_158 sk_116 rfl d_Mod_readCellOf_76 rfl (Nat.le_of_ble_eq_true rfl) (by decide) (by decide) (c_Mod_readNumberX h5 b (x_en b p0) hI7 0 0 tc_0 3 3 tc_3 s sZ sE (kn_call fh5 sK rfl) o9 o9Z o9E o9K o10 o10Z o10E o10K o11 o11Z o11E o11K o12 o12Z o12E o12K o13 o13Z o13E o13K o14 o14Z o14E o14K (TP_fr f8 (fun _ => rfl) hy0) (by (first | decide +kernel | with_reducible assumption | omega)) (Or.inl (by (first | decide +kernel | with_reducible assumption | omega)))) (fun z77 h78 z77Z z77E p79 => ?_)
            obtain ⟨hI80, fh78, o82, o82Z, o82E, o82K, o83, o83Z, o83E, o83K, o84, o84Z, o84E, o84K, o85, o85Z, o85E, o85K, o86, o86Z, o86E, o86K, o87, o87Z, o87E, o87K, p79⟩ := p79
            have f81 : fr S_Mod_readCellOfX_7 h h78 := fr_call f8 fh78 rfl
            have g88 : 0 ≤ o82Z ∧ o82Z ≤ 160 := inv_at hI80 o82E o82K.symm rfl
            have g89 : 0 ≤ o83Z ∧ o83Z ≤ 160 := inv_at hI80 o83E o83K.symm rfl
            refine V_istore_n 3 [some (.ref 116), some (.int 7), some (.int z4), some (.int z77), none] d_Mod_readCellOf_79 rfl (by decide) rfl rfl ?_
            refine V_iload_n 1 d_Mod_readCellOf_80 rfl rfl ?_
            refine V_iconst 4 d_Mod_readCellOf_81 (by decide) ?_
            refine V_icmp_ne 89 tc_7 tc_4 d_Mod_readCellOf_82 (by decide) (fun c90 => ?_) (fun c90 => ?_)
            ·
              refine V_iload_n 1 d_Mod_readCellOf_89 rfl rfl ?_
              refine V_bipush 6 d_Mod_readCellOf_90 (by decide) ?_
              refine V_icmp_ne 100 tc_7 tc_6 d_Mod_readCellOf_92 (by decide) (fun c91 => ?_) (fun c91 => ?_)
              ·
                refine V_bipush 48 d_Mod_readCellOf_100 (by decide) ?_
                refine V_istore 4 [some (.ref 116), some (.int 7), some (.int z4), some (.int z77), some (.int 48)] d_Mod_readCellOf_102 (by decide) rfl rfl ?_
                refine V_aload_n 0 d_Mod_readCellOf_104 rfl rfl ?_
                refine V_getR fa_Mod_17 sk_116 rfl d_Mod_readCellOf_105 ?_
                refine V_iload d_Mod_readCellOf_108 rfl ?_
                refine V_iload_n 2 d_Mod_readCellOf_110 rfl rfl ?_
                refine V_iadd tc_48 z4E (by (first | decide +kernel | with_reducible assumption | omega)) d_Mod_readCellOf_111 (fun z92 z92e z92E => ?_)
                refine V_aload_n 0 d_Mod_readCellOf_112 rfl rfl ?_
                refine N_getK fa_Mod_102 sk_116 rfl d_Mod_readCellOf_113 o86K ?_
                refine V_if_ne 123 o86E d_Mod_readCellOf_116 (by decide) (fun c93 => ?_) (fun c93 => ?_)
                ·
                  refine V_aload_n 0 d_Mod_readCellOf_123 rfl rfl ?_
                  refine V_getR fa_Mod_17 sk_116 rfl d_Mod_readCellOf_124 ?_
                  refine V_iload d_Mod_readCellOf_127 rfl ?_
                  refine V_iload_n 2 d_Mod_readCellOf_129 rfl rfl ?_
                  refine V_iadd tc_48 z4E (by (first | decide +kernel | with_reducible assumption | omega)) d_Mod_readCellOf_130 (fun z94 z94e z94E => ?_)
                  refine N_iald sk_119 z94E (by (first | decide +kernel | with_reducible assumption | omega)) d_Mod_readCellOf_131 (fun z95 z95Z z95E z95e => ?_)
                  refine N_iast sk_119 z92E (by (first | decide +kernel | with_reducible assumption | omega)) d_Mod_readCellOf_132 (fun h96 eh96 => ?_)
                  have hI97 : Inv h96 := inv_full hI80 eh96 (st_lo (by (first | decide +kernel | with_reducible assumption | omega)))
                  have f98 : fr S_Mod_readCellOfX_7 h h96 := fr_put f81 eh96 rfl
                  exact V_vret rfl d_Mod_readCellOf_133 ⟨rfl, ⟨hI97, f98, o82, o82Z, o82E, (kn_ne eh96 o82K (by decide)), o83, o83Z, o83E, (kn_ne eh96 o83K (by decide)), o84, o84Z, o84E, (kn_ne eh96 o84K (by decide)), o85, o85Z, o85E, (kn_ne eh96 o85K (by decide)), o86, o86Z, o86E, (kn_ne eh96 o86K (by decide)), o87, o87Z, o87E, (kn_ne eh96 o87K (by decide)), ⟨Or.inl ⟨by (first | decide +kernel | with_reducible assumption | omega), (show x_l4 b T p0 = (x_cN b (x_en b p0) 0 3, x_fr b (x_en b p0)) from by unfold x_l4; rw [x_sq_n (c := x_cN b p0 0 15) (by (first | decide +kernel | with_reducible assumption | omega)), x_sq_n (c := x_c4 (T 4 (x_vl b p0))) (by (first | decide +kernel | with_reducible assumption | omega)), x_sq_y (c := x_cN b (x_en b p0) 0 3) (by (first | decide +kernel | with_reducible assumption | omega))]).trans (pq (by (first | decide +kernel | with_reducible assumption | omega)) (by (first | decide +kernel | with_reducible assumption | omega)))⟩, by (first | decide +kernel | with_reducible assumption | omega), by (first | decide +kernel | with_reducible assumption | omega), by (first | decide +kernel | with_reducible assumption | omega)⟩⟩⟩
                ·
                  exact absurd c93 (by (first | decide +kernel | with_reducible assumption | omega))
              ·
                exact absurd c91 (by decide)
            ·
              exact absurd c90 (by decide)
          ·
            exact absurd c76 (by decide)
        ·
          exact absurd c75 (by decide)
      ·
        exact absurd c74 (by decide)
    ·
      exact absurd c73 (by decide)
  ·
    obtain ⟨p61, p62, p63, p64, p6R⟩ := ((p6.1.resolve_left (fun q => by (first | decide +kernel | with_reducible assumption | omega))).resolve_left (fun q => by (first | decide +kernel | with_reducible assumption | omega)))
    replace p6 := And.intro (p64.resolve_left (fun q => by (first | decide +kernel | with_reducible assumption | omega))) p6.2
    clear p64
    refine V_iload_n 1 d_Mod_readCellOf_8 rfl rfl ?_
    refine V_iconst 5 d_Mod_readCellOf_9 (by decide) ?_
    refine V_icmp_ne 43 tc_7 tc_5 d_Mod_readCellOf_10 (by decide) (fun c99 => ?_) (fun c99 => ?_)
    ·
      refine V_aload_n 0 d_Mod_readCellOf_43 rfl rfl ?_
      refine V_iload_n 1 d_Mod_readCellOf_44 rfl rfl ?_
      refine V_iconst 4 d_Mod_readCellOf_45 (by decide) ?_
      refine V_icmp_ne 53 tc_7 tc_4 d_Mod_readCellOf_46 (by decide) (fun c100 => ?_) (fun c100 => ?_)
      ·
        refine V_iconst 0 d_Mod_readCellOf_53 (by decide) ?_
        refine V_iload_n 1 d_Mod_readCellOf_54 rfl rfl ?_
        refine V_iconst 4 d_Mod_readCellOf_55 (by decide) ?_
        refine V_icmp_ne 64 tc_7 tc_4 d_Mod_readCellOf_56 (by decide) (fun c101 => ?_) (fun c101 => ?_)
        ·
          refine V_iload_n 1 d_Mod_readCellOf_64 rfl rfl ?_
          refine V_bipush 6 d_Mod_readCellOf_65 (by decide) ?_
          refine V_icmp_ne 75 tc_7 tc_6 d_Mod_readCellOf_67 (by decide) (fun c102 => ?_) (fun c102 => ?_)
          ·
            refine V_iconst 3 d_Mod_readCellOf_75 (by decide) ?_
            refine N_callVI [.int 0, .int 3] [] cv_Mod_158 sk_116 rfl d_Mod_readCellOf_76 rfl (Nat.le_of_ble_eq_true rfl) (by decide) (by decide) (c_Mod_readNumberX h5 b (x_en b p0) hI7 0 0 tc_0 3 3 tc_3 s sZ sE (kn_call fh5 sK rfl) o9 o9Z o9E o9K o10 o10Z o10E o10K o11 o11Z o11E o11K o12 o12Z o12E o12K o13 o13Z o13E o13K o14 o14Z o14E o14K (TP_fr f8 (fun _ => rfl) hy0) (by (first | decide +kernel | with_reducible assumption | omega)) (Or.inr ⟨by (first | decide +kernel | with_reducible assumption | omega), by (first | decide +kernel | with_reducible assumption | omega), by (first | decide +kernel | with_reducible assumption | omega), by (first | decide +kernel | with_reducible assumption | omega), by (first | decide +kernel | with_reducible assumption | omega), by (first | decide +kernel | with_reducible assumption | omega), by (first | decide +kernel | with_reducible assumption | omega), by (first | decide +kernel | with_reducible assumption | omega), by (first | decide +kernel | with_reducible assumption | omega), by (first | decide +kernel | with_reducible assumption | omega), by (first | decide +kernel | with_reducible assumption | omega)⟩)) (fun z103 h104 z103Z z103E p105 => ?_)
            obtain ⟨hI106, fh104, o108, o108Z, o108E, o108K, o109, o109Z, o109E, o109K, o110, o110Z, o110E, o110K, o111, o111Z, o111E, o111K, o112, o112Z, o112E, o112K, o113, o113Z, o113E, o113K, p105⟩ := p105
            have f107 : fr S_Mod_readCellOfX_7 h h104 := fr_call f8 fh104 rfl
            have R114 : RM h104 (x_upT T 4 (x_vl b p0)) D := RM_fr fh104 rfl p6R
            have g115 : 0 ≤ o108Z ∧ o108Z ≤ 160 := inv_at hI106 o108E o108K.symm rfl
            have g116 : 0 ≤ o109Z ∧ o109Z ≤ 160 := inv_at hI106 o109E o109K.symm rfl
            rcases (dj3 _ _ : o112Z ≠ 0 ∧ x_cN b (x_en b p0) 0 3 ≠ 0 ∨ o112Z ≠ 0 ∧ x_cN b (x_en b p0) 0 3 = 0 ∨ o112Z = 0) with c117 | c117 | c117
            ·
              replace p105 := And.intro ((p105.1.resolve_left (fun q => by (first | decide +kernel | with_reducible assumption | omega))).resolve_right (fun q => by (first | decide +kernel | with_reducible assumption | omega))) p105.2
              have g118 := x_cN_s b (x_en b p0) 0 3
              have g119 := x_cS_s b (x_en b (x_en b p0))
              refine V_istore_n 3 [some (.ref 116), some (.int 7), some (.int z4), some (.int z103), none] d_Mod_readCellOf_79 rfl (by decide) rfl rfl ?_
              refine V_iload_n 1 d_Mod_readCellOf_80 rfl rfl ?_
              refine V_iconst 4 d_Mod_readCellOf_81 (by decide) ?_
              refine V_icmp_ne 89 tc_7 tc_4 d_Mod_readCellOf_82 (by decide) (fun c120 => ?_) (fun c120 => ?_)
              ·
                refine V_iload_n 1 d_Mod_readCellOf_89 rfl rfl ?_
                refine V_bipush 6 d_Mod_readCellOf_90 (by decide) ?_
                refine V_icmp_ne 100 tc_7 tc_6 d_Mod_readCellOf_92 (by decide) (fun c121 => ?_) (fun c121 => ?_)
                ·
                  refine V_bipush 48 d_Mod_readCellOf_100 (by decide) ?_
                  refine V_istore 4 [some (.ref 116), some (.int 7), some (.int z4), some (.int z103), some (.int 48)] d_Mod_readCellOf_102 (by decide) rfl rfl ?_
                  refine V_aload_n 0 d_Mod_readCellOf_104 rfl rfl ?_
                  refine V_getR fa_Mod_17 sk_116 rfl d_Mod_readCellOf_105 ?_
                  refine V_iload d_Mod_readCellOf_108 rfl ?_
                  refine V_iload_n 2 d_Mod_readCellOf_110 rfl rfl ?_
                  refine V_iadd tc_48 z4E (by (first | decide +kernel | with_reducible assumption | omega)) d_Mod_readCellOf_111 (fun z122 z122e z122E => ?_)
                  refine V_aload_n 0 d_Mod_readCellOf_112 rfl rfl ?_
                  refine N_getK fa_Mod_102 sk_116 rfl d_Mod_readCellOf_113 o112K ?_
                  refine V_if_ne 123 o112E d_Mod_readCellOf_116 (by decide) (fun c123 => ?_) (fun c123 => ?_)
                  ·
                    refine V_aload_n 0 d_Mod_readCellOf_123 rfl rfl ?_
                    refine V_getR fa_Mod_17 sk_116 rfl d_Mod_readCellOf_124 ?_
                    refine V_iload d_Mod_readCellOf_127 rfl ?_
                    refine V_iload_n 2 d_Mod_readCellOf_129 rfl rfl ?_
                    refine V_iadd tc_48 z4E (by (first | decide +kernel | with_reducible assumption | omega)) d_Mod_readCellOf_130 (fun z124 z124e z124E => ?_)
                    refine N_iald sk_119 z124E (by (first | decide +kernel | with_reducible assumption | omega)) d_Mod_readCellOf_131 (fun z125 z125Z z125E z125e => ?_)
                    refine N_iast sk_119 z122E (by (first | decide +kernel | with_reducible assumption | omega)) d_Mod_readCellOf_132 (fun h126 eh126 => ?_)
                    have hI127 : Inv h126 := inv_full hI106 eh126 (st_lo (by (first | decide +kernel | with_reducible assumption | omega)))
                    have f128 : fr S_Mod_readCellOfX_7 h h126 := fr_put f107 eh126 rfl
                    exact V_vret rfl d_Mod_readCellOf_133 ⟨rfl, ⟨hI127, f128, o108, o108Z, o108E, (kn_ne eh126 o108K (by decide)), o109, o109Z, o109E, (kn_ne eh126 o109K (by decide)), o110, o110Z, o110E, (kn_ne eh126 o110K (by decide)), o111, o111Z, o111E, (kn_ne eh126 o111K (by decide)), o112, o112Z, o112E, (kn_ne eh126 o112K (by decide)), o113, o113Z, o113E, (kn_ne eh126 o113K (by decide)), ⟨Or.inl ⟨by (first | decide +kernel | with_reducible assumption | omega), (show x_l4 b T p0 = (x_cN b (x_en b p0) 0 3, x_fr b (x_en b p0)) from by unfold x_l4; rw [x_sq_n (c := x_cN b p0 0 15) (by (first | decide +kernel | with_reducible assumption | omega)), x_sq_n (c := x_c4 (T 4 (x_vl b p0))) (by (first | decide +kernel | with_reducible assumption | omega)), x_sq_y (c := x_cN b (x_en b p0) 0 3) (by (first | decide +kernel | with_reducible assumption | omega))]).trans (pq (by (first | decide +kernel | with_reducible assumption | omega)) (by (first | decide +kernel | with_reducible assumption | omega)))⟩, by (first | decide +kernel | with_reducible assumption | omega), by (first | decide +kernel | with_reducible assumption | omega), by (first | decide +kernel | with_reducible assumption | omega)⟩⟩⟩
                  ·
                    exact absurd c123 (by (first | decide +kernel | with_reducible assumption | omega))
                ·
                  exact absurd c121 (by decide)
              ·
                exact absurd c120 (by decide)
            ·
              replace p105 := And.intro ((p105.1.resolve_left (fun q => by (first | decide +kernel | with_reducible assumption | omega))).resolve_left (fun q => by (first | decide +kernel | with_reducible assumption | omega))).2.1 (And.intro ((p105.1.resolve_left (fun q => by (first | decide +kernel | with_reducible assumption | omega))).resolve_left (fun q => by (first | decide +kernel | with_reducible assumption | omega))).2.2.1 (And.intro (((p105.1.resolve_left (fun q => by (first | decide +kernel | with_reducible assumption | omega))).resolve_left (fun q => by (first | decide +kernel | with_reducible assumption | omega))).2.2.2.resolve_right (fun q => by (first | decide +kernel | with_reducible assumption | omega))) p105.2))
              have g129 := x_cN_s b (x_en b p0) 0 3
              have g130 := x_cS_s b (x_en b (x_en b p0))
              refine V_istore_n 3 [some (.ref 116), some (.int 7), some (.int z4), some (.int z103), none] d_Mod_readCellOf_79 rfl (by decide) rfl rfl ?_
              refine V_iload_n 1 d_Mod_readCellOf_80 rfl rfl ?_
              refine V_iconst 4 d_Mod_readCellOf_81 (by decide) ?_
              refine V_icmp_ne 89 tc_7 tc_4 d_Mod_readCellOf_82 (by decide) (fun c131 => ?_) (fun c131 => ?_)
              ·
                refine V_iload_n 1 d_Mod_readCellOf_89 rfl rfl ?_
                refine V_bipush 6 d_Mod_readCellOf_90 (by decide) ?_
                refine V_icmp_ne 100 tc_7 tc_6 d_Mod_readCellOf_92 (by decide) (fun c132 => ?_) (fun c132 => ?_)
                ·
                  refine V_bipush 48 d_Mod_readCellOf_100 (by decide) ?_
                  refine V_istore 4 [some (.ref 116), some (.int 7), some (.int z4), some (.int z103), some (.int 48)] d_Mod_readCellOf_102 (by decide) rfl rfl ?_
                  refine V_aload_n 0 d_Mod_readCellOf_104 rfl rfl ?_
                  refine V_getR fa_Mod_17 sk_116 rfl d_Mod_readCellOf_105 ?_
                  refine V_iload d_Mod_readCellOf_108 rfl ?_
                  refine V_iload_n 2 d_Mod_readCellOf_110 rfl rfl ?_
                  refine V_iadd tc_48 z4E (by (first | decide +kernel | with_reducible assumption | omega)) d_Mod_readCellOf_111 (fun z133 z133e z133E => ?_)
                  refine V_aload_n 0 d_Mod_readCellOf_112 rfl rfl ?_
                  refine N_getK fa_Mod_102 sk_116 rfl d_Mod_readCellOf_113 o112K ?_
                  refine V_if_ne 123 o112E d_Mod_readCellOf_116 (by decide) (fun c134 => ?_) (fun c134 => ?_)
                  ·
                    refine V_aload_n 0 d_Mod_readCellOf_123 rfl rfl ?_
                    refine V_getR fa_Mod_17 sk_116 rfl d_Mod_readCellOf_124 ?_
                    refine V_iload d_Mod_readCellOf_127 rfl ?_
                    refine V_iload_n 2 d_Mod_readCellOf_129 rfl rfl ?_
                    refine V_iadd tc_48 z4E (by (first | decide +kernel | with_reducible assumption | omega)) d_Mod_readCellOf_130 (fun z135 z135e z135E => ?_)
                    refine N_iald sk_119 z135E (by (first | decide +kernel | with_reducible assumption | omega)) d_Mod_readCellOf_131 (fun z136 z136Z z136E z136e => ?_)
                    refine N_iast sk_119 z133E (by (first | decide +kernel | with_reducible assumption | omega)) d_Mod_readCellOf_132 (fun h137 eh137 => ?_)
                    have hI138 : Inv h137 := inv_full hI106 eh137 (st_lo (by (first | decide +kernel | with_reducible assumption | omega)))
                    have f139 : fr S_Mod_readCellOfX_7 h h137 := fr_put f107 eh137 rfl
                    exact V_vret rfl d_Mod_readCellOf_133 ⟨rfl, ⟨hI138, f139, o108, o108Z, o108E, (kn_ne eh137 o108K (by decide)), o109, o109Z, o109E, (kn_ne eh137 o109K (by decide)), o110, o110Z, o110E, (kn_ne eh137 o110K (by decide)), o111, o111Z, o111E, (kn_ne eh137 o111K (by decide)), o112, o112Z, o112E, (kn_ne eh137 o112K (by decide)), o113, o113Z, o113E, (kn_ne eh137 o113K (by decide)), ⟨Or.inl ⟨by (first | decide +kernel | with_reducible assumption | omega), (show x_l4 b T p0 = (x_cS b (x_en b (x_en b p0)), x_fr b (x_en b (x_en b p0))) from by unfold x_l4; rw [x_sq_n (c := x_cN b p0 0 15) (by (first | decide +kernel | with_reducible assumption | omega)), x_sq_n (c := x_c4 (T 4 (x_vl b p0))) (by (first | decide +kernel | with_reducible assumption | omega)), x_sq_n (c := x_cN b (x_en b p0) 0 3) (by (first | decide +kernel | with_reducible assumption | omega)), x_sq_y (c := x_cS b (x_en b (x_en b p0))) (by (first | decide +kernel | with_reducible assumption | omega))]).trans (pq (by (first | decide +kernel | with_reducible assumption | omega)) (by (first | decide +kernel | with_reducible assumption | omega)))⟩, by (first | decide +kernel | with_reducible assumption | omega), by (first | decide +kernel | with_reducible assumption | omega), by (first | decide +kernel | with_reducible assumption | omega)⟩⟩⟩
                  ·
                    exact absurd c134 (by (first | decide +kernel | with_reducible assumption | omega))
                ·
                  exact absurd c132 (by decide)
              ·
                exact absurd c131 (by decide)
            ·
              replace p105 := And.intro ((p105.1.resolve_left (fun q => by (first | decide +kernel | with_reducible assumption | omega))).resolve_left (fun q => by (first | decide +kernel | with_reducible assumption | omega))).2.1 (And.intro ((p105.1.resolve_left (fun q => by (first | decide +kernel | with_reducible assumption | omega))).resolve_left (fun q => by (first | decide +kernel | with_reducible assumption | omega))).2.2.1 (And.intro (((p105.1.resolve_left (fun q => by (first | decide +kernel | with_reducible assumption | omega))).resolve_left (fun q => by (first | decide +kernel | with_reducible assumption | omega))).2.2.2.resolve_left (fun q => by (first | decide +kernel | with_reducible assumption | omega))) p105.2))
              refine V_istore_n 3 [some (.ref 116), some (.int 7), some (.int z4), some (.int z103), none] d_Mod_readCellOf_79 rfl (by decide) rfl rfl ?_
              refine V_iload_n 1 d_Mod_readCellOf_80 rfl rfl ?_
              refine V_iconst 4 d_Mod_readCellOf_81 (by decide) ?_
              refine V_icmp_ne 89 tc_7 tc_4 d_Mod_readCellOf_82 (by decide) (fun c140 => ?_) (fun c140 => ?_)
              ·
                refine V_iload_n 1 d_Mod_readCellOf_89 rfl rfl ?_
                refine V_bipush 6 d_Mod_readCellOf_90 (by decide) ?_
                refine V_icmp_ne 100 tc_7 tc_6 d_Mod_readCellOf_92 (by decide) (fun c141 => ?_) (fun c141 => ?_)
                ·
                  refine V_bipush 48 d_Mod_readCellOf_100 (by decide) ?_
                  refine V_istore 4 [some (.ref 116), some (.int 7), some (.int z4), some (.int z103), some (.int 48)] d_Mod_readCellOf_102 (by decide) rfl rfl ?_
                  refine V_aload_n 0 d_Mod_readCellOf_104 rfl rfl ?_
                  refine V_getR fa_Mod_17 sk_116 rfl d_Mod_readCellOf_105 ?_
                  refine V_iload d_Mod_readCellOf_108 rfl ?_
                  refine V_iload_n 2 d_Mod_readCellOf_110 rfl rfl ?_
                  refine V_iadd tc_48 z4E (by (first | decide +kernel | with_reducible assumption | omega)) d_Mod_readCellOf_111 (fun z142 z142e z142E => ?_)
                  refine V_aload_n 0 d_Mod_readCellOf_112 rfl rfl ?_
                  refine N_getK fa_Mod_102 sk_116 rfl d_Mod_readCellOf_113 o112K ?_
                  refine V_if_ne 123 o112E d_Mod_readCellOf_116 (by decide) (fun c143 => ?_) (fun c143 => ?_)
                  ·
                    exact absurd c143 (by (first | decide +kernel | with_reducible assumption | omega))
                  ·
                    refine V_iload_n 3 d_Mod_readCellOf_119 rfl rfl ?_
                    refine V_goto 132 d_Mod_readCellOf_120 (by decide) ?_
                    refine N_iast sk_119 z142E (by (first | decide +kernel | with_reducible assumption | omega)) d_Mod_readCellOf_132 (fun h144 eh144 => ?_)
                    have hI145 : Inv h144 := inv_full hI106 eh144 (st_lo (by (first | decide +kernel | with_reducible assumption | omega)))
                    have f146 : fr S_Mod_readCellOfX_7 h h144 := fr_put f107 eh144 rfl
                    have R147 : RM h144 (x_upT T 4 (x_vl b p0)) (x_up D (48 + (x_vl b p0)) (x_vl b (x_en b p0))) := RM_put R114 eh144 (Or.inl ⟨rfl, by (first | decide +kernel | with_reducible assumption | omega), rfl⟩) (z103E.trans (by (first | decide +kernel | with_reducible assumption | omega))) (by (first | decide +kernel | with_reducible assumption | omega))
                    exact V_vret rfl d_Mod_readCellOf_133 ⟨rfl, ⟨hI145, f146, o108, o108Z, o108E, (kn_ne eh144 o108K (by decide)), o109, o109Z, o109E, (kn_ne eh144 o109K (by decide)), o110, o110Z, o110E, (kn_ne eh144 o110K (by decide)), o111, o111Z, o111E, (kn_ne eh144 o111K (by decide)), o112, o112Z, o112E, (kn_ne eh144 o112K (by decide)), o113, o113Z, o113E, (kn_ne eh144 o113K (by decide)), ⟨Or.inr ⟨by (first | decide +kernel | with_reducible assumption | omega), by unfold x_l4; rw [x_sq_n (c := x_cN b p0 0 15) (by (first | decide +kernel | with_reducible assumption | omega)), x_sq_n (c := x_c4 (T 4 (x_vl b p0))) (by (first | decide +kernel | with_reducible assumption | omega)), x_sq_n (c := x_cN b (x_en b p0) 0 3) (by (first | decide +kernel | with_reducible assumption | omega))], p105.2.2.1.2, R147⟩, by (first | decide +kernel | with_reducible assumption | omega), by (first | decide +kernel | with_reducible assumption | omega), by (first | decide +kernel | with_reducible assumption | omega)⟩⟩⟩
                ·
                  exact absurd c141 (by decide)
              ·
                exact absurd c140 (by decide)
          ·
            exact absurd c102 (by decide)
        ·
          exact absurd c101 (by decide)
      ·
        exact absurd c100 (by decide)
    ·
      exact absurd c99 (by decide)
end
section
theorem x_cN_0 {b : Int → Int} {p lo hi : Int} (h : x_cN b p lo hi = 0) : x_kd b p = 2 ∧ lo ≤ x_vl b p ∧ x_vl b p ≤ hi := by have := x_cN_s b p lo hi; omega
theorem x_cN_4 {b : Int → Int} {p : Int} (lo hi : Int) (h : x_kd b p = 4) : x_cN b p lo hi = 1 := by have := x_cN_s b p lo hi; omega
theorem x_cS_4 {b : Int → Int} {p : Int} (h : x_kd b p = 4) : x_cS b p = 1 := by have := x_cS_s b p; omega
theorem lk_num {b : Int → Int} {p lo hi k v w u y a f r : Int} (hk : k = x_kd b p) (h4 : k ≠ 4) (hv : k ≠ 2 ∨ v = x_vl b p) (hw : w = 0) (h : w ≠ 0 ∧ u = w ∧ y = a ∧ r = 0 ∨ w = 0 ∧ k ≠ 2 ∧ u = 2 ∧ y = f ∧ r = 0 ∨ w = 0 ∧ k = 2 ∧ (v < lo ∨ hi < v) ∧ u = 3 ∧ y = f ∧ r = 0 ∨ w = 0 ∧ k = 2 ∧ lo ≤ v ∧ v ≤ hi ∧ u = 0 ∧ y = a ∧ r = v) : x_cN b p lo hi ≠ 0 ∧ u = x_cN b p lo hi ∧ y = f ∧ r = 0 ∧ 0 ≤ u ∨ x_cN b p lo hi = 0 ∧ u = 0 ∧ y = a ∧ r = x_vl b p := by
  have q := x_cN_s b p lo hi
  rcases h with h | h | h | h
  · omega
  · left; omega
  · left; omega
  · right; omega
end
