section
def S_Mod_readRodX : List (Nat × Option Nat) := [(116, some 16), (116, some 17), (116, some 18), (116, some 19), (116, some 20), (116, some 21), (119, none)]
abbrev q_Mod_readRodX (h : Hp) (b : Int → Int) (T : Nat → Int → Int) (D : Nat → Int) (p0 : Int) (s : Int32) (sZ : Int) (p : Int32) (pZ : Int) (g : Int32) (gZ : Int) (k : Int32) (kZ : Int) (v : Int32) (vZ : Int) (w : Int32) (wZ : Int) (a : Int32) (aZ : Int) : Option Value → Hp → Prop := pVd (fun h' => Inv h' ∧ fr S_Mod_readRodX h h' ∧ ∃ (q : Int32) (qZ : Int), q.toInt = qZ ∧ h'.1 116 16 = q ∧ ∃ (f : Int32) (fZ : Int), f.toInt = fZ ∧ h'.1 116 17 = f ∧ ∃ (m : Int32) (mZ : Int), m.toInt = mZ ∧ h'.1 116 18 = m ∧ ∃ (x : Int32) (xZ : Int), x.toInt = xZ ∧ h'.1 116 19 = x ∧ ∃ (u : Int32) (uZ : Int), u.toInt = uZ ∧ h'.1 116 20 = u ∧ ∃ (y : Int32) (yZ : Int), y.toInt = yZ ∧ h'.1 116 21 = y ∧ ((uZ ≠ 0 ∧ x_l8 b T p0 = (uZ, yZ) ∨ uZ = 0 ∧ x_l8 b T p0 = x_sq (x_cS b (x_en b (x_en b p0))) (x_fr b (x_en b (x_en b p0))) (0, x_en b (x_en b (x_en b p0))) ∧ (fZ = x_fr b (x_en b (x_en b p0)) ∧ mZ = x_kd b (x_en b (x_en b p0)) ∧ mZ ≠ 4 ∧ 0 ≤ mZ ∧ mZ ≤ 3 ∧ qZ = x_en b (x_en b (x_en b p0)) ∧ (mZ ≠ 2 ∨ xZ = x_vl b (x_en b (x_en b p0)) ∧ 0 ≤ xZ ∧ xZ ≤ 99) ∧ (x_en b (x_en b p0)) ≤ fZ ∧ fZ ≤ qZ ∧ qZ ≤ sZ ∧ (mZ = 0 ∨ fZ < qZ)) ∧ RM h' T (x_up (x_up D 84 (x_nn b p0)) 85 (x_vl b (x_en b p0)))) ∧ 0 ≤ qZ ∧ qZ ≤ sZ ∧ 0 ≤ uZ))
set_option maxRecDepth 100000 in
theorem c_Mod_readRodX (h : Hp) (b : Int → Int) (T : Nat → Int → Int) (D : Nat → Int) (p0 : Int) (hI : Inv h) (s : Int32) (sZ : Int) (sE : s.toInt = sZ) (sK : h.1 116 15 = s) (p : Int32) (pZ : Int) (pE : p.toInt = pZ) (pK : h.1 116 16 = p) (g : Int32) (gZ : Int) (gE : g.toInt = gZ) (gK : h.1 116 17 = g) (k : Int32) (kZ : Int) (kE : k.toInt = kZ) (kK : h.1 116 18 = k) (v : Int32) (vZ : Int) (vE : v.toInt = vZ) (vK : h.1 116 19 = v) (w : Int32) (wZ : Int) (wE : w.toInt = wZ) (wK : h.1 116 20 = w) (a : Int32) (aZ : Int) (aE : a.toInt = aZ) (aK : h.1 116 21 = a) (hy0 : TP h 121 sZ b) (hy1 : 0 ≤ pZ ∧ pZ ≤ sZ ∧ wZ = 0) (hy2 : gZ = x_fr b p0 ∧ kZ = x_kd b p0 ∧ kZ ≠ 4 ∧ 0 ≤ kZ ∧ kZ ≤ 3 ∧ pZ = x_en b p0 ∧ (kZ ≠ 2 ∨ vZ = x_vl b p0 ∧ 0 ≤ vZ ∧ vZ ≤ 99) ∧ p0 ≤ gZ ∧ gZ ≤ pZ ∧ pZ ≤ sZ ∧ (kZ = 0 ∨ gZ < pZ)) (hy3 : RM h T D) : Ct y_Mod_readRod b_Mod_readRod 2 none 3 70 [.ref 116] h (q_Mod_readRodX h b T D p0 s sZ p pZ g gZ k kZ v vZ w wZ a aZ) := by
  refine ct_ow R_Mod [some (.ref 116), none] rfl (by decide) rfl (Nat.le_of_ble_eq_true rfl) ?_
  have f0 : fr S_Mod_readRodX h h := fr_rf
  have g1 : 0 ≤ sZ ∧ sZ ≤ 160 := inv_at hI sE sK.symm rfl
  have g2 : 0 ≤ pZ ∧ pZ ≤ 160 := inv_at hI pE pK.symm rfl
  have g3 : 0 ≤ gZ ∧ gZ ≤ 160 := inv_at hI gE gK.symm rfl
  refine V_aload_n 0 d_Mod_readRod_0 rfl rfl ?_
  refine N_getK fa_Mod_102 sk_116 rfl d_Mod_readRod_1 wK ?_
  refine V_if_ne 22 wE d_Mod_readRod_4 (by decide) (fun c4 => ?_) (fun c4 => ?_)
  ·
    refine V_bipush (-4) d_Mod_readRod_22 (by decide) ?_
    refine V_istore_n 1 [some (.ref 116), some (.int (-4))] d_Mod_readRod_24 rfl (by decide) rfl rfl ?_
    have g5 : x_nn b p0 = x_nt b gZ pZ := by unfold x_nn; rw [show gZ = x_fr b p0 by (first | decide +kernel | with_reducible assumption | omega), show pZ = x_en b p0 by (first | decide +kernel | with_reducible assumption | omega)]
    have g6 := x_cK_s b p0
    have g7 : x_fr b pZ = x_fr b (x_en b p0) := congrArg (x_fr b) (by (first | decide +kernel | with_reducible assumption | omega))
    have g8 : x_kd b pZ = x_kd b (x_en b p0) := congrArg (x_kd b) (by (first | decide +kernel | with_reducible assumption | omega))
    have g9 : x_en b pZ = x_en b (x_en b p0) := congrArg (x_en b) (by (first | decide +kernel | with_reducible assumption | omega))
    have g10 : x_vl b pZ = x_vl b (x_en b p0) := congrArg (x_vl b) (by (first | decide +kernel | with_reducible assumption | omega))
    refine V_aload_n 0 d_Mod_readRod_25 rfl rfl ?_
    refine V_iload_n 1 d_Mod_readRod_26 rfl rfl ?_
    refine V_bipush (-4) d_Mod_readRod_27 (by decide) ?_
    refine V_icmp_eq 36 tc_m4 tc_m4 d_Mod_readRod_29 (by decide) (fun c11 => ?_) (fun c11 => ?_)
    ·
      refine V_iconst 0 d_Mod_readRod_36 (by decide) ?_
      refine V_iconst 2 d_Mod_readRod_37 (by decide) ?_
      refine N_callVV [.int 0, .int 2] [] cv_Mod_144 sk_116 rfl d_Mod_readRod_38 rfl (Nat.le_of_ble_eq_true rfl) (by decide) (by decide) (c_Mod_needsX h hI 0 0 tc_0 2 2 tc_2 g gZ gE gK w wZ wE wK a aZ aE aK) (fun h13 p14 => ?_)
      obtain ⟨hI15, fh13, o17, o17Z, o17E, o17K, o18, o18Z, o18E, o18K, p14⟩ := p14
      have f16 : fr S_Mod_readRodX h h13 := fr_call f0 fh13 rfl
      refine V_aload_n 0 d_Mod_readRod_41 rfl rfl ?_
      refine N_callVV [] [] cv_Mod_152 sk_116 rfl d_Mod_readRod_42 rfl (Nat.le_of_ble_eq_true rfl) (by decide) (by decide) (c_Mod_nextX h13 b hI15 s sZ sE (kn_call fh13 sK rfl) p pZ pE (kn_call fh13 pK rfl) g gZ gE (kn_call fh13 gK rfl) k kZ kE (kn_call fh13 kK rfl) v vZ vE (kn_call fh13 vK rfl) o17 o17Z o17E o17K o18 o18Z o18E o18K (TP_fr f16 (fun _ => rfl) hy0) (by (first | decide +kernel | with_reducible assumption | omega))) (fun h20 p21 => ?_)
      obtain ⟨hI22, fh20, o24, o24Z, o24E, o24K, o25, o25Z, o25E, o25K, o26, o26Z, o26E, o26K, o27, o27Z, o27E, o27K, o28, o28Z, o28E, o28K, o29, o29Z, o29E, o29K, p21⟩ := p21
      have f23 : fr S_Mod_readRodX h h20 := fr_call f16 fh20 rfl
      have g30 : 0 ≤ o24Z ∧ o24Z ≤ 160 := inv_at hI22 o24E o24K.symm rfl
      have g31 : 0 ≤ o25Z ∧ o25Z ≤ 160 := inv_at hI22 o25E o25K.symm rfl
      refine V_aload_n 0 d_Mod_readRod_45 rfl rfl ?_
      refine V_getR fa_Mod_17 sk_116 rfl d_Mod_readRod_46 ?_
      refine V_bipush 84 d_Mod_readRod_49 (by decide) ?_
      refine V_iload_n 1 d_Mod_readRod_51 rfl rfl ?_
      refine N_iast sk_119 tc_84 (by (first | decide +kernel | with_reducible assumption | omega)) d_Mod_readRod_52 (fun h32 eh32 => ?_)
      have hI33 : Inv h32 := inv_full hI22 eh32 rfl
      have f34 : fr S_Mod_readRodX h h32 := fr_put f23 eh32 rfl
      refine V_aload_n 0 d_Mod_readRod_53 rfl rfl ?_
      refine V_getR fa_Mod_17 sk_116 rfl d_Mod_readRod_54 ?_
      refine V_bipush 85 d_Mod_readRod_57 (by decide) ?_
      refine V_aload_n 0 d_Mod_readRod_59 rfl rfl ?_
      refine V_iconst 1 d_Mod_readRod_60 (by decide) ?_
      refine V_bipush 9 d_Mod_readRod_61 (by decide) ?_
      refine N_callVI [.int 1, .int 9] [.int 85, .ref 119] cv_Mod_158 sk_116 rfl d_Mod_readRod_63 rfl (Nat.le_of_ble_eq_true rfl) (by decide) (by decide) (c_Mod_readNumberX h32 b (x_en b p0) hI33 1 1 tc_1 9 9 tc_9 s sZ sE (kn_ne eh32 (kn_call fh20 (kn_call fh13 sK rfl) rfl) (by decide)) o24 o24Z o24E (kn_ne eh32 o24K (by decide)) o25 o25Z o25E (kn_ne eh32 o25K (by decide)) o26 o26Z o26E (kn_ne eh32 o26K (by decide)) o27 o27Z o27E (kn_ne eh32 o27K (by decide)) o28 o28Z o28E (kn_ne eh32 o28K (by decide)) o29 o29Z o29E (kn_ne eh32 o29K (by decide)) (TP_fr f34 (fun _ => rfl) hy0) (by (first | decide +kernel | with_reducible assumption | omega)) (Or.inl (by (first | decide +kernel | with_reducible assumption | omega)))) (fun z35 h36 z35Z z35E p37 => ?_)
      obtain ⟨hI38, fh36, o40, o40Z, o40E, o40K, o41, o41Z, o41E, o41K, o42, o42Z, o42E, o42K, o43, o43Z, o43E, o43K, o44, o44Z, o44E, o44K, o45, o45Z, o45E, o45K, p37⟩ := p37
      have f39 : fr S_Mod_readRodX h h36 := fr_call f34 fh36 rfl
      have g46 : 0 ≤ o40Z ∧ o40Z ≤ 160 := inv_at hI38 o40E o40K.symm rfl
      have g47 : 0 ≤ o41Z ∧ o41Z ≤ 160 := inv_at hI38 o41E o41K.symm rfl
      replace p37 := And.intro (p37.1.resolve_right (fun q => by (first | decide +kernel | with_reducible assumption | omega))) p37.2
      refine N_iast sk_119 tc_85 (by (first | decide +kernel | with_reducible assumption | omega)) d_Mod_readRod_66 (fun h48 eh48 => ?_)
      have hI49 : Inv h48 := inv_full hI38 eh48 rfl
      have f50 : fr S_Mod_readRodX h h48 := fr_put f39 eh48 rfl
      exact V_vret rfl d_Mod_readRod_67 ⟨rfl, ⟨hI49, f50, o40, o40Z, o40E, (kn_ne eh48 o40K (by decide)), o41, o41Z, o41E, (kn_ne eh48 o41K (by decide)), o42, o42Z, o42E, (kn_ne eh48 o42K (by decide)), o43, o43Z, o43E, (kn_ne eh48 o43K (by decide)), o44, o44Z, o44E, (kn_ne eh48 o44K (by decide)), o45, o45Z, o45E, (kn_ne eh48 o45K (by decide)), ⟨Or.inl ⟨by (first | decide +kernel | with_reducible assumption | omega), (show x_l8 b T p0 = (x_cK b p0, x_fr b p0) from by unfold x_l8; rw [x_sq_y (c := x_cK b p0) (by (first | decide +kernel | with_reducible assumption | omega))]).trans (pq (by (first | decide +kernel | with_reducible assumption | omega)) (by (first | decide +kernel | with_reducible assumption | omega)))⟩, by (first | decide +kernel | with_reducible assumption | omega), by (first | decide +kernel | with_reducible assumption | omega), by (first | decide +kernel | with_reducible assumption | omega)⟩⟩⟩
    ·
      exact absurd c11 (by decide)
  ·
    refine V_aload_n 0 d_Mod_readRod_7 rfl rfl ?_
    refine N_getK fa_Mod_130 sk_116 rfl d_Mod_readRod_8 kK ?_
    refine V_iconst 1 d_Mod_readRod_11 (by decide) ?_
    refine V_icmp_ne 22 kE tc_1 d_Mod_readRod_12 (by decide) (fun c51 => ?_) (fun c51 => ?_)
    ·
      refine V_bipush (-4) d_Mod_readRod_22 (by decide) ?_
      refine V_istore_n 1 [some (.ref 116), some (.int (-4))] d_Mod_readRod_24 rfl (by decide) rfl rfl ?_
      have g52 : x_nn b p0 = x_nt b gZ pZ := by unfold x_nn; rw [show gZ = x_fr b p0 by (first | decide +kernel | with_reducible assumption | omega), show pZ = x_en b p0 by (first | decide +kernel | with_reducible assumption | omega)]
      have g53 := x_cK_s b p0
      have g54 : x_fr b pZ = x_fr b (x_en b p0) := congrArg (x_fr b) (by (first | decide +kernel | with_reducible assumption | omega))
      have g55 : x_kd b pZ = x_kd b (x_en b p0) := congrArg (x_kd b) (by (first | decide +kernel | with_reducible assumption | omega))
      have g56 : x_en b pZ = x_en b (x_en b p0) := congrArg (x_en b) (by (first | decide +kernel | with_reducible assumption | omega))
      have g57 : x_vl b pZ = x_vl b (x_en b p0) := congrArg (x_vl b) (by (first | decide +kernel | with_reducible assumption | omega))
      refine V_aload_n 0 d_Mod_readRod_25 rfl rfl ?_
      refine V_iload_n 1 d_Mod_readRod_26 rfl rfl ?_
      refine V_bipush (-4) d_Mod_readRod_27 (by decide) ?_
      refine V_icmp_eq 36 tc_m4 tc_m4 d_Mod_readRod_29 (by decide) (fun c58 => ?_) (fun c58 => ?_)
      ·
        refine V_iconst 0 d_Mod_readRod_36 (by decide) ?_
        refine V_iconst 2 d_Mod_readRod_37 (by decide) ?_
        refine N_callVV [.int 0, .int 2] [] cv_Mod_144 sk_116 rfl d_Mod_readRod_38 rfl (Nat.le_of_ble_eq_true rfl) (by decide) (by decide) (c_Mod_needsX h hI 0 0 tc_0 2 2 tc_2 g gZ gE gK w wZ wE wK a aZ aE aK) (fun h60 p61 => ?_)
        obtain ⟨hI62, fh60, o64, o64Z, o64E, o64K, o65, o65Z, o65E, o65K, p61⟩ := p61
        have f63 : fr S_Mod_readRodX h h60 := fr_call f0 fh60 rfl
        refine V_aload_n 0 d_Mod_readRod_41 rfl rfl ?_
        refine N_callVV [] [] cv_Mod_152 sk_116 rfl d_Mod_readRod_42 rfl (Nat.le_of_ble_eq_true rfl) (by decide) (by decide) (c_Mod_nextX h60 b hI62 s sZ sE (kn_call fh60 sK rfl) p pZ pE (kn_call fh60 pK rfl) g gZ gE (kn_call fh60 gK rfl) k kZ kE (kn_call fh60 kK rfl) v vZ vE (kn_call fh60 vK rfl) o64 o64Z o64E o64K o65 o65Z o65E o65K (TP_fr f63 (fun _ => rfl) hy0) (by (first | decide +kernel | with_reducible assumption | omega))) (fun h67 p68 => ?_)
        obtain ⟨hI69, fh67, o71, o71Z, o71E, o71K, o72, o72Z, o72E, o72K, o73, o73Z, o73E, o73K, o74, o74Z, o74E, o74K, o75, o75Z, o75E, o75K, o76, o76Z, o76E, o76K, p68⟩ := p68
        have f70 : fr S_Mod_readRodX h h67 := fr_call f63 fh67 rfl
        have g77 : 0 ≤ o71Z ∧ o71Z ≤ 160 := inv_at hI69 o71E o71K.symm rfl
        have g78 : 0 ≤ o72Z ∧ o72Z ≤ 160 := inv_at hI69 o72E o72K.symm rfl
        refine V_aload_n 0 d_Mod_readRod_45 rfl rfl ?_
        refine V_getR fa_Mod_17 sk_116 rfl d_Mod_readRod_46 ?_
        refine V_bipush 84 d_Mod_readRod_49 (by decide) ?_
        refine V_iload_n 1 d_Mod_readRod_51 rfl rfl ?_
        refine N_iast sk_119 tc_84 (by (first | decide +kernel | with_reducible assumption | omega)) d_Mod_readRod_52 (fun h79 eh79 => ?_)
        have hI80 : Inv h79 := inv_full hI69 eh79 rfl
        have f81 : fr S_Mod_readRodX h h79 := fr_put f70 eh79 rfl
        refine V_aload_n 0 d_Mod_readRod_53 rfl rfl ?_
        refine V_getR fa_Mod_17 sk_116 rfl d_Mod_readRod_54 ?_
        refine V_bipush 85 d_Mod_readRod_57 (by decide) ?_
        refine V_aload_n 0 d_Mod_readRod_59 rfl rfl ?_
        refine V_iconst 1 d_Mod_readRod_60 (by decide) ?_
        refine V_bipush 9 d_Mod_readRod_61 (by decide) ?_
        refine N_callVI [.int 1, .int 9] [.int 85, .ref 119] cv_Mod_158 sk_116 rfl d_Mod_readRod_63 rfl (Nat.le_of_ble_eq_true rfl) (by decide) (by decide) (c_Mod_readNumberX h79 b (x_en b p0) hI80 1 1 tc_1 9 9 tc_9 s sZ sE (kn_ne eh79 (kn_call fh67 (kn_call fh60 sK rfl) rfl) (by decide)) o71 o71Z o71E (kn_ne eh79 o71K (by decide)) o72 o72Z o72E (kn_ne eh79 o72K (by decide)) o73 o73Z o73E (kn_ne eh79 o73K (by decide)) o74 o74Z o74E (kn_ne eh79 o74K (by decide)) o75 o75Z o75E (kn_ne eh79 o75K (by decide)) o76 o76Z o76E (kn_ne eh79 o76K (by decide)) (TP_fr f81 (fun _ => rfl) hy0) (by (first | decide +kernel | with_reducible assumption | omega)) (Or.inl (by (first | decide +kernel | with_reducible assumption | omega)))) (fun z82 h83 z82Z z82E p84 => ?_)
        obtain ⟨hI85, fh83, o87, o87Z, o87E, o87K, o88, o88Z, o88E, o88K, o89, o89Z, o89E, o89K, o90, o90Z, o90E, o90K, o91, o91Z, o91E, o91K, o92, o92Z, o92E, o92K, p84⟩ := p84
        have f86 : fr S_Mod_readRodX h h83 := fr_call f81 fh83 rfl
        have g93 : 0 ≤ o87Z ∧ o87Z ≤ 160 := inv_at hI85 o87E o87K.symm rfl
        have g94 : 0 ≤ o88Z ∧ o88Z ≤ 160 := inv_at hI85 o88E o88K.symm rfl
        replace p84 := And.intro (p84.1.resolve_right (fun q => by (first | decide +kernel | with_reducible assumption | omega))) p84.2
        refine N_iast sk_119 tc_85 (by (first | decide +kernel | with_reducible assumption | omega)) d_Mod_readRod_66 (fun h95 eh95 => ?_)
        have hI96 : Inv h95 := inv_full hI85 eh95 rfl
        have f97 : fr S_Mod_readRodX h h95 := fr_put f86 eh95 rfl
        exact V_vret rfl d_Mod_readRod_67 ⟨rfl, ⟨hI96, f97, o87, o87Z, o87E, (kn_ne eh95 o87K (by decide)), o88, o88Z, o88E, (kn_ne eh95 o88K (by decide)), o89, o89Z, o89E, (kn_ne eh95 o89K (by decide)), o90, o90Z, o90E, (kn_ne eh95 o90K (by decide)), o91, o91Z, o91E, (kn_ne eh95 o91K (by decide)), o92, o92Z, o92E, (kn_ne eh95 o92K (by decide)), ⟨Or.inl ⟨by (first | decide +kernel | with_reducible assumption | omega), (show x_l8 b T p0 = (x_cK b p0, x_fr b p0) from by unfold x_l8; rw [x_sq_y (c := x_cK b p0) (by (first | decide +kernel | with_reducible assumption | omega))]).trans (pq (by (first | decide +kernel | with_reducible assumption | omega)) (by (first | decide +kernel | with_reducible assumption | omega)))⟩, by (first | decide +kernel | with_reducible assumption | omega), by (first | decide +kernel | with_reducible assumption | omega), by (first | decide +kernel | with_reducible assumption | omega)⟩⟩⟩
      ·
        exact absurd c58 (by decide)
    ·
      refine V_aload_n 0 d_Mod_readRod_15 rfl rfl ?_
      refine N_callVI [] [] cv_Mod_155 sk_116 rfl d_Mod_readRod_16 rfl (Nat.le_of_ble_eq_true rfl) (by decide) (by decide) (c_Mod_natureNowX h b hI s sZ sE sK p pZ pE pK g gZ gE gK (TP_fr f0 (fun _ => rfl) hy0) (by (first | decide +kernel | with_reducible assumption | omega)) (by (first | decide +kernel | with_reducible assumption | omega))) (fun z98 h99 z98Z z98E p100 => ?_)
      obtain ⟨eh99, p100⟩ := p100
      subst eh99
      refine V_goto 24 d_Mod_readRod_19 (by decide) ?_
      refine V_istore_n 1 [some (.ref 116), some (.int z98)] d_Mod_readRod_24 rfl (by decide) rfl rfl ?_
      have g101 : x_nn b p0 = x_nt b gZ pZ := by unfold x_nn; rw [show gZ = x_fr b p0 by (first | decide +kernel | with_reducible assumption | omega), show pZ = x_en b p0 by (first | decide +kernel | with_reducible assumption | omega)]
      have g102 := x_cK_s b p0
      have g103 : x_fr b pZ = x_fr b (x_en b p0) := congrArg (x_fr b) (by (first | decide +kernel | with_reducible assumption | omega))
      have g104 : x_kd b pZ = x_kd b (x_en b p0) := congrArg (x_kd b) (by (first | decide +kernel | with_reducible assumption | omega))
      have g105 : x_en b pZ = x_en b (x_en b p0) := congrArg (x_en b) (by (first | decide +kernel | with_reducible assumption | omega))
      have g106 : x_vl b pZ = x_vl b (x_en b p0) := congrArg (x_vl b) (by (first | decide +kernel | with_reducible assumption | omega))
      refine V_aload_n 0 d_Mod_readRod_25 rfl rfl ?_
      refine V_iload_n 1 d_Mod_readRod_26 rfl rfl ?_
      refine V_bipush (-4) d_Mod_readRod_27 (by decide) ?_
      refine V_icmp_eq 36 z98E tc_m4 d_Mod_readRod_29 (by decide) (fun c107 => ?_) (fun c107 => ?_)
      ·
        refine V_iconst 0 d_Mod_readRod_36 (by decide) ?_
        refine V_iconst 2 d_Mod_readRod_37 (by decide) ?_
        refine N_callVV [.int 0, .int 2] [] cv_Mod_144 sk_116 rfl d_Mod_readRod_38 rfl (Nat.le_of_ble_eq_true rfl) (by decide) (by decide) (c_Mod_needsX h hI 0 0 tc_0 2 2 tc_2 g gZ gE gK w wZ wE wK a aZ aE aK) (fun h109 p110 => ?_)
        obtain ⟨hI111, fh109, o113, o113Z, o113E, o113K, o114, o114Z, o114E, o114K, p110⟩ := p110
        have f112 : fr S_Mod_readRodX h h109 := fr_call f0 fh109 rfl
        refine V_aload_n 0 d_Mod_readRod_41 rfl rfl ?_
        refine N_callVV [] [] cv_Mod_152 sk_116 rfl d_Mod_readRod_42 rfl (Nat.le_of_ble_eq_true rfl) (by decide) (by decide) (c_Mod_nextX h109 b hI111 s sZ sE (kn_call fh109 sK rfl) p pZ pE (kn_call fh109 pK rfl) g gZ gE (kn_call fh109 gK rfl) k kZ kE (kn_call fh109 kK rfl) v vZ vE (kn_call fh109 vK rfl) o113 o113Z o113E o113K o114 o114Z o114E o114K (TP_fr f112 (fun _ => rfl) hy0) (by (first | decide +kernel | with_reducible assumption | omega))) (fun h116 p117 => ?_)
        obtain ⟨hI118, fh116, o120, o120Z, o120E, o120K, o121, o121Z, o121E, o121K, o122, o122Z, o122E, o122K, o123, o123Z, o123E, o123K, o124, o124Z, o124E, o124K, o125, o125Z, o125E, o125K, p117⟩ := p117
        have f119 : fr S_Mod_readRodX h h116 := fr_call f112 fh116 rfl
        have g126 : 0 ≤ o120Z ∧ o120Z ≤ 160 := inv_at hI118 o120E o120K.symm rfl
        have g127 : 0 ≤ o121Z ∧ o121Z ≤ 160 := inv_at hI118 o121E o121K.symm rfl
        refine V_aload_n 0 d_Mod_readRod_45 rfl rfl ?_
        refine V_getR fa_Mod_17 sk_116 rfl d_Mod_readRod_46 ?_
        refine V_bipush 84 d_Mod_readRod_49 (by decide) ?_
        refine V_iload_n 1 d_Mod_readRod_51 rfl rfl ?_
        refine N_iast sk_119 tc_84 (by (first | decide +kernel | with_reducible assumption | omega)) d_Mod_readRod_52 (fun h128 eh128 => ?_)
        have hI129 : Inv h128 := inv_full hI118 eh128 rfl
        have f130 : fr S_Mod_readRodX h h128 := fr_put f119 eh128 rfl
        refine V_aload_n 0 d_Mod_readRod_53 rfl rfl ?_
        refine V_getR fa_Mod_17 sk_116 rfl d_Mod_readRod_54 ?_
        refine V_bipush 85 d_Mod_readRod_57 (by decide) ?_
        refine V_aload_n 0 d_Mod_readRod_59 rfl rfl ?_
        refine V_iconst 1 d_Mod_readRod_60 (by decide) ?_
        refine V_bipush 9 d_Mod_readRod_61 (by decide) ?_
        refine N_callVI [.int 1, .int 9] [.int 85, .ref 119] cv_Mod_158 sk_116 rfl d_Mod_readRod_63 rfl (Nat.le_of_ble_eq_true rfl) (by decide) (by decide) (c_Mod_readNumberX h128 b (x_en b p0) hI129 1 1 tc_1 9 9 tc_9 s sZ sE (kn_ne eh128 (kn_call fh116 (kn_call fh109 sK rfl) rfl) (by decide)) o120 o120Z o120E (kn_ne eh128 o120K (by decide)) o121 o121Z o121E (kn_ne eh128 o121K (by decide)) o122 o122Z o122E (kn_ne eh128 o122K (by decide)) o123 o123Z o123E (kn_ne eh128 o123K (by decide)) o124 o124Z o124E (kn_ne eh128 o124K (by decide)) o125 o125Z o125E (kn_ne eh128 o125K (by decide)) (TP_fr f130 (fun _ => rfl) hy0) (by (first | decide +kernel | with_reducible assumption | omega)) (Or.inl (by (first | decide +kernel | with_reducible assumption | omega)))) (fun z131 h132 z131Z z131E p133 => ?_)
        obtain ⟨hI134, fh132, o136, o136Z, o136E, o136K, o137, o137Z, o137E, o137K, o138, o138Z, o138E, o138K, o139, o139Z, o139E, o139K, o140, o140Z, o140E, o140K, o141, o141Z, o141E, o141K, p133⟩ := p133
        have f135 : fr S_Mod_readRodX h h132 := fr_call f130 fh132 rfl
        have g142 : 0 ≤ o136Z ∧ o136Z ≤ 160 := inv_at hI134 o136E o136K.symm rfl
        have g143 : 0 ≤ o137Z ∧ o137Z ≤ 160 := inv_at hI134 o137E o137K.symm rfl
        replace p133 := And.intro (p133.1.resolve_right (fun q => by (first | decide +kernel | with_reducible assumption | omega))) p133.2
        refine N_iast sk_119 tc_85 (by (first | decide +kernel | with_reducible assumption | omega)) d_Mod_readRod_66 (fun h144 eh144 => ?_)
        have hI145 : Inv h144 := inv_full hI134 eh144 rfl
        have f146 : fr S_Mod_readRodX h h144 := fr_put f135 eh144 rfl
        exact V_vret rfl d_Mod_readRod_67 ⟨rfl, ⟨hI145, f146, o136, o136Z, o136E, (kn_ne eh144 o136K (by decide)), o137, o137Z, o137E, (kn_ne eh144 o137K (by decide)), o138, o138Z, o138E, (kn_ne eh144 o138K (by decide)), o139, o139Z, o139E, (kn_ne eh144 o139K (by decide)), o140, o140Z, o140E, (kn_ne eh144 o140K (by decide)), o141, o141Z, o141E, (kn_ne eh144 o141K (by decide)), ⟨Or.inl ⟨by (first | decide +kernel | with_reducible assumption | omega), (show x_l8 b T p0 = (x_cK b p0, x_fr b p0) from by unfold x_l8; rw [x_sq_y (c := x_cK b p0) (by (first | decide +kernel | with_reducible assumption | omega))]).trans (pq (by (first | decide +kernel | with_reducible assumption | omega)) (by (first | decide +kernel | with_reducible assumption | omega)))⟩, by (first | decide +kernel | with_reducible assumption | omega), by (first | decide +kernel | with_reducible assumption | omega), by (first | decide +kernel | with_reducible assumption | omega)⟩⟩⟩
      ·
        refine V_iconst 1 d_Mod_readRod_32 (by decide) ?_
        refine V_goto 37 d_Mod_readRod_33 (by decide) ?_
        refine V_iconst 2 d_Mod_readRod_37 (by decide) ?_
        refine N_callVV [.int 1, .int 2] [] cv_Mod_144 sk_116 rfl d_Mod_readRod_38 rfl (Nat.le_of_ble_eq_true rfl) (by decide) (by decide) (c_Mod_needsX h hI 1 1 tc_1 2 2 tc_2 g gZ gE gK w wZ wE wK a aZ aE aK) (fun h148 p149 => ?_)
        obtain ⟨hI150, fh148, o152, o152Z, o152E, o152K, o153, o153Z, o153E, o153K, p149⟩ := p149
        have f151 : fr S_Mod_readRodX h h148 := fr_call f0 fh148 rfl
        have R154 : RM h148 T D := RM_fr fh148 rfl hy3
        refine V_aload_n 0 d_Mod_readRod_41 rfl rfl ?_
        refine N_callVV [] [] cv_Mod_152 sk_116 rfl d_Mod_readRod_42 rfl (Nat.le_of_ble_eq_true rfl) (by decide) (by decide) (c_Mod_nextX h148 b hI150 s sZ sE (kn_call fh148 sK rfl) p pZ pE (kn_call fh148 pK rfl) g gZ gE (kn_call fh148 gK rfl) k kZ kE (kn_call fh148 kK rfl) v vZ vE (kn_call fh148 vK rfl) o152 o152Z o152E o152K o153 o153Z o153E o153K (TP_fr f151 (fun _ => rfl) hy0) (by (first | decide +kernel | with_reducible assumption | omega))) (fun h156 p157 => ?_)
        obtain ⟨hI158, fh156, o160, o160Z, o160E, o160K, o161, o161Z, o161E, o161K, o162, o162Z, o162E, o162K, o163, o163Z, o163E, o163K, o164, o164Z, o164E, o164K, o165, o165Z, o165E, o165K, p157⟩ := p157
        have f159 : fr S_Mod_readRodX h h156 := fr_call f151 fh156 rfl
        have R166 : RM h156 T D := RM_fr fh156 rfl R154
        have g167 : 0 ≤ o160Z ∧ o160Z ≤ 160 := inv_at hI158 o160E o160K.symm rfl
        have g168 : 0 ≤ o161Z ∧ o161Z ≤ 160 := inv_at hI158 o161E o161K.symm rfl
        rcases (dj2 _ : o164Z ≠ 0 ∨ o164Z = 0) with c169 | c169
        ·
          have g170 := x_cN_4 (b := b) (p := (x_en b p0)) 1 9 (by (first | decide +kernel | with_reducible assumption | omega))
          refine V_aload_n 0 d_Mod_readRod_45 rfl rfl ?_
          refine V_getR fa_Mod_17 sk_116 rfl d_Mod_readRod_46 ?_
          refine V_bipush 84 d_Mod_readRod_49 (by decide) ?_
          refine V_iload_n 1 d_Mod_readRod_51 rfl rfl ?_
          refine N_iast sk_119 tc_84 (by (first | decide +kernel | with_reducible assumption | omega)) d_Mod_readRod_52 (fun h171 eh171 => ?_)
          have hI172 : Inv h171 := inv_full hI158 eh171 rfl
          have f173 : fr S_Mod_readRodX h h171 := fr_put f159 eh171 rfl
          refine V_aload_n 0 d_Mod_readRod_53 rfl rfl ?_
          refine V_getR fa_Mod_17 sk_116 rfl d_Mod_readRod_54 ?_
          refine V_bipush 85 d_Mod_readRod_57 (by decide) ?_
          refine V_aload_n 0 d_Mod_readRod_59 rfl rfl ?_
          refine V_iconst 1 d_Mod_readRod_60 (by decide) ?_
          refine V_bipush 9 d_Mod_readRod_61 (by decide) ?_
          refine N_callVI [.int 1, .int 9] [.int 85, .ref 119] cv_Mod_158 sk_116 rfl d_Mod_readRod_63 rfl (Nat.le_of_ble_eq_true rfl) (by decide) (by decide) (c_Mod_readNumberX h171 b (x_en b p0) hI172 1 1 tc_1 9 9 tc_9 s sZ sE (kn_ne eh171 (kn_call fh156 (kn_call fh148 sK rfl) rfl) (by decide)) o160 o160Z o160E (kn_ne eh171 o160K (by decide)) o161 o161Z o161E (kn_ne eh171 o161K (by decide)) o162 o162Z o162E (kn_ne eh171 o162K (by decide)) o163 o163Z o163E (kn_ne eh171 o163K (by decide)) o164 o164Z o164E (kn_ne eh171 o164K (by decide)) o165 o165Z o165E (kn_ne eh171 o165K (by decide)) (TP_fr f173 (fun _ => rfl) hy0) (by (first | decide +kernel | with_reducible assumption | omega)) (Or.inl (by (first | decide +kernel | with_reducible assumption | omega)))) (fun z174 h175 z174Z z174E p176 => ?_)
          obtain ⟨hI177, fh175, o179, o179Z, o179E, o179K, o180, o180Z, o180E, o180K, o181, o181Z, o181E, o181K, o182, o182Z, o182E, o182K, o183, o183Z, o183E, o183K, o184, o184Z, o184E, o184K, p176⟩ := p176
          have f178 : fr S_Mod_readRodX h h175 := fr_call f173 fh175 rfl
          have g185 : 0 ≤ o179Z ∧ o179Z ≤ 160 := inv_at hI177 o179E o179K.symm rfl
          have g186 : 0 ≤ o180Z ∧ o180Z ≤ 160 := inv_at hI177 o180E o180K.symm rfl
          replace p176 := And.intro (p176.1.resolve_right (fun q => by (first | decide +kernel | with_reducible assumption | omega))) p176.2
          refine N_iast sk_119 tc_85 (by (first | decide +kernel | with_reducible assumption | omega)) d_Mod_readRod_66 (fun h187 eh187 => ?_)
          have hI188 : Inv h187 := inv_full hI177 eh187 rfl
          have f189 : fr S_Mod_readRodX h h187 := fr_put f178 eh187 rfl
          exact V_vret rfl d_Mod_readRod_67 ⟨rfl, ⟨hI188, f189, o179, o179Z, o179E, (kn_ne eh187 o179K (by decide)), o180, o180Z, o180E, (kn_ne eh187 o180K (by decide)), o181, o181Z, o181E, (kn_ne eh187 o181K (by decide)), o182, o182Z, o182E, (kn_ne eh187 o182K (by decide)), o183, o183Z, o183E, (kn_ne eh187 o183K (by decide)), o184, o184Z, o184E, (kn_ne eh187 o184K (by decide)), ⟨Or.inl ⟨by (first | decide +kernel | with_reducible assumption | omega), (show x_l8 b T p0 = (x_cN b (x_en b p0) 1 9, x_fr b (x_en b p0)) from by unfold x_l8; rw [x_sq_n (c := x_cK b p0) (by (first | decide +kernel | with_reducible assumption | omega)), x_sq_y (c := x_cN b (x_en b p0) 1 9) (by (first | decide +kernel | with_reducible assumption | omega))]).trans (pq (by (first | decide +kernel | with_reducible assumption | omega)) (by (first | decide +kernel | with_reducible assumption | omega)))⟩, by (first | decide +kernel | with_reducible assumption | omega), by (first | decide +kernel | with_reducible assumption | omega), by (first | decide +kernel | with_reducible assumption | omega)⟩⟩⟩
        ·
          refine V_aload_n 0 d_Mod_readRod_45 rfl rfl ?_
          refine V_getR fa_Mod_17 sk_116 rfl d_Mod_readRod_46 ?_
          refine V_bipush 84 d_Mod_readRod_49 (by decide) ?_
          refine V_iload_n 1 d_Mod_readRod_51 rfl rfl ?_
          refine N_iast sk_119 tc_84 (by (first | decide +kernel | with_reducible assumption | omega)) d_Mod_readRod_52 (fun h190 eh190 => ?_)
          have hI191 : Inv h190 := inv_full hI158 eh190 rfl
          have f192 : fr S_Mod_readRodX h h190 := fr_put f159 eh190 rfl
          have R193 : RM h190 T (x_up D 84 (x_nn b p0)) := RM_put R166 eh190 (Or.inl ⟨rfl, by (first | decide +kernel | with_reducible assumption | omega), rfl⟩) (z98E.trans (by (first | decide +kernel | with_reducible assumption | omega))) (by (first | decide +kernel | with_reducible assumption | omega))
          refine V_aload_n 0 d_Mod_readRod_53 rfl rfl ?_
          refine V_getR fa_Mod_17 sk_116 rfl d_Mod_readRod_54 ?_
          refine V_bipush 85 d_Mod_readRod_57 (by decide) ?_
          refine V_aload_n 0 d_Mod_readRod_59 rfl rfl ?_
          refine V_iconst 1 d_Mod_readRod_60 (by decide) ?_
          refine V_bipush 9 d_Mod_readRod_61 (by decide) ?_
          refine N_callVI [.int 1, .int 9] [.int 85, .ref 119] cv_Mod_158 sk_116 rfl d_Mod_readRod_63 rfl (Nat.le_of_ble_eq_true rfl) (by decide) (by decide) (c_Mod_readNumberX h190 b (x_en b p0) hI191 1 1 tc_1 9 9 tc_9 s sZ sE (kn_ne eh190 (kn_call fh156 (kn_call fh148 sK rfl) rfl) (by decide)) o160 o160Z o160E (kn_ne eh190 o160K (by decide)) o161 o161Z o161E (kn_ne eh190 o161K (by decide)) o162 o162Z o162E (kn_ne eh190 o162K (by decide)) o163 o163Z o163E (kn_ne eh190 o163K (by decide)) o164 o164Z o164E (kn_ne eh190 o164K (by decide)) o165 o165Z o165E (kn_ne eh190 o165K (by decide)) (TP_fr f192 (fun _ => rfl) hy0) (by (first | decide +kernel | with_reducible assumption | omega)) (Or.inr ⟨by (first | decide +kernel | with_reducible assumption | omega), by (first | decide +kernel | with_reducible assumption | omega), by (first | decide +kernel | with_reducible assumption | omega), by (first | decide +kernel | with_reducible assumption | omega), by (first | decide +kernel | with_reducible assumption | omega), by (first | decide +kernel | with_reducible assumption | omega), by (first | decide +kernel | with_reducible assumption | omega), by (first | decide +kernel | with_reducible assumption | omega), by (first | decide +kernel | with_reducible assumption | omega), by (first | decide +kernel | with_reducible assumption | omega), by (first | decide +kernel | with_reducible assumption | omega)⟩)) (fun z194 h195 z194Z z194E p196 => ?_)
          obtain ⟨hI197, fh195, o199, o199Z, o199E, o199K, o200, o200Z, o200E, o200K, o201, o201Z, o201E, o201K, o202, o202Z, o202E, o202K, o203, o203Z, o203E, o203K, o204, o204Z, o204E, o204K, p196⟩ := p196
          have f198 : fr S_Mod_readRodX h h195 := fr_call f192 fh195 rfl
          have R205 : RM h195 T (x_up D 84 (x_nn b p0)) := RM_fr fh195 rfl R193
          have g206 : 0 ≤ o199Z ∧ o199Z ≤ 160 := inv_at hI197 o199E o199K.symm rfl
          have g207 : 0 ≤ o200Z ∧ o200Z ≤ 160 := inv_at hI197 o200E o200K.symm rfl
          rcases (dj3 _ _ : o203Z ≠ 0 ∧ x_cN b (x_en b p0) 1 9 ≠ 0 ∨ o203Z ≠ 0 ∧ x_cN b (x_en b p0) 1 9 = 0 ∨ o203Z = 0) with c208 | c208 | c208
          ·
            replace p196 := And.intro ((p196.1.resolve_left (fun q => by (first | decide +kernel | with_reducible assumption | omega))).resolve_right (fun q => by (first | decide +kernel | with_reducible assumption | omega))) p196.2
            refine N_iast sk_119 tc_85 (by (first | decide +kernel | with_reducible assumption | omega)) d_Mod_readRod_66 (fun h209 eh209 => ?_)
            have hI210 : Inv h209 := inv_full hI197 eh209 rfl
            have f211 : fr S_Mod_readRodX h h209 := fr_put f198 eh209 rfl
            exact V_vret rfl d_Mod_readRod_67 ⟨rfl, ⟨hI210, f211, o199, o199Z, o199E, (kn_ne eh209 o199K (by decide)), o200, o200Z, o200E, (kn_ne eh209 o200K (by decide)), o201, o201Z, o201E, (kn_ne eh209 o201K (by decide)), o202, o202Z, o202E, (kn_ne eh209 o202K (by decide)), o203, o203Z, o203E, (kn_ne eh209 o203K (by decide)), o204, o204Z, o204E, (kn_ne eh209 o204K (by decide)), ⟨Or.inl ⟨by (first | decide +kernel | with_reducible assumption | omega), (show x_l8 b T p0 = (x_cN b (x_en b p0) 1 9, x_fr b (x_en b p0)) from by unfold x_l8; rw [x_sq_n (c := x_cK b p0) (by (first | decide +kernel | with_reducible assumption | omega)), x_sq_y (c := x_cN b (x_en b p0) 1 9) (by (first | decide +kernel | with_reducible assumption | omega))]).trans (pq (by (first | decide +kernel | with_reducible assumption | omega)) (by (first | decide +kernel | with_reducible assumption | omega)))⟩, by (first | decide +kernel | with_reducible assumption | omega), by (first | decide +kernel | with_reducible assumption | omega), by (first | decide +kernel | with_reducible assumption | omega)⟩⟩⟩
          ·
            replace p196 := And.intro ((p196.1.resolve_left (fun q => by (first | decide +kernel | with_reducible assumption | omega))).resolve_left (fun q => by (first | decide +kernel | with_reducible assumption | omega))).2.1 (And.intro ((p196.1.resolve_left (fun q => by (first | decide +kernel | with_reducible assumption | omega))).resolve_left (fun q => by (first | decide +kernel | with_reducible assumption | omega))).2.2.1 (And.intro (((p196.1.resolve_left (fun q => by (first | decide +kernel | with_reducible assumption | omega))).resolve_left (fun q => by (first | decide +kernel | with_reducible assumption | omega))).2.2.2.resolve_right (fun q => by (first | decide +kernel | with_reducible assumption | omega))) p196.2))
            have g212 := x_cN_0 p196.1
            have g213 := x_cS_4 (b := b) (p := (x_en b (x_en b p0))) (by (first | decide +kernel | with_reducible assumption | omega))
            refine N_iast sk_119 tc_85 (by (first | decide +kernel | with_reducible assumption | omega)) d_Mod_readRod_66 (fun h214 eh214 => ?_)
            have hI215 : Inv h214 := inv_full hI197 eh214 rfl
            have f216 : fr S_Mod_readRodX h h214 := fr_put f198 eh214 rfl
            exact V_vret rfl d_Mod_readRod_67 ⟨rfl, ⟨hI215, f216, o199, o199Z, o199E, (kn_ne eh214 o199K (by decide)), o200, o200Z, o200E, (kn_ne eh214 o200K (by decide)), o201, o201Z, o201E, (kn_ne eh214 o201K (by decide)), o202, o202Z, o202E, (kn_ne eh214 o202K (by decide)), o203, o203Z, o203E, (kn_ne eh214 o203K (by decide)), o204, o204Z, o204E, (kn_ne eh214 o204K (by decide)), ⟨Or.inl ⟨by (first | decide +kernel | with_reducible assumption | omega), (show x_l8 b T p0 = (x_cS b (x_en b (x_en b p0)), x_fr b (x_en b (x_en b p0))) from by unfold x_l8; rw [x_sq_n (c := x_cK b p0) (by (first | decide +kernel | with_reducible assumption | omega)), x_sq_n (c := x_cN b (x_en b p0) 1 9) (by (first | decide +kernel | with_reducible assumption | omega)), x_sq_y (c := x_cS b (x_en b (x_en b p0))) (by (first | decide +kernel | with_reducible assumption | omega))]).trans (pq (by (first | decide +kernel | with_reducible assumption | omega)) (by (first | decide +kernel | with_reducible assumption | omega)))⟩, by (first | decide +kernel | with_reducible assumption | omega), by (first | decide +kernel | with_reducible assumption | omega), by (first | decide +kernel | with_reducible assumption | omega)⟩⟩⟩
          ·
            replace p196 := And.intro ((p196.1.resolve_left (fun q => by (first | decide +kernel | with_reducible assumption | omega))).resolve_left (fun q => by (first | decide +kernel | with_reducible assumption | omega))).2.1 (And.intro ((p196.1.resolve_left (fun q => by (first | decide +kernel | with_reducible assumption | omega))).resolve_left (fun q => by (first | decide +kernel | with_reducible assumption | omega))).2.2.1 (And.intro (((p196.1.resolve_left (fun q => by (first | decide +kernel | with_reducible assumption | omega))).resolve_left (fun q => by (first | decide +kernel | with_reducible assumption | omega))).2.2.2.resolve_left (fun q => by (first | decide +kernel | with_reducible assumption | omega))) p196.2))
            have g217 := x_cN_0 p196.1
            refine N_iast sk_119 tc_85 (by (first | decide +kernel | with_reducible assumption | omega)) d_Mod_readRod_66 (fun h218 eh218 => ?_)
            have hI219 : Inv h218 := inv_full hI197 eh218 rfl
            have f220 : fr S_Mod_readRodX h h218 := fr_put f198 eh218 rfl
            have R221 : RM h218 T (x_up (x_up D 84 (x_nn b p0)) 85 (x_vl b (x_en b p0))) := RM_put R205 eh218 (Or.inl ⟨rfl, by (first | decide +kernel | with_reducible assumption | omega), rfl⟩) (z194E.trans (by (first | decide +kernel | with_reducible assumption | omega))) (by (first | decide +kernel | with_reducible assumption | omega))
            exact V_vret rfl d_Mod_readRod_67 ⟨rfl, ⟨hI219, f220, o199, o199Z, o199E, (kn_ne eh218 o199K (by decide)), o200, o200Z, o200E, (kn_ne eh218 o200K (by decide)), o201, o201Z, o201E, (kn_ne eh218 o201K (by decide)), o202, o202Z, o202E, (kn_ne eh218 o202K (by decide)), o203, o203Z, o203E, (kn_ne eh218 o203K (by decide)), o204, o204Z, o204E, (kn_ne eh218 o204K (by decide)), ⟨Or.inr ⟨by (first | decide +kernel | with_reducible assumption | omega), by unfold x_l8; rw [x_sq_n (c := x_cK b p0) (by (first | decide +kernel | with_reducible assumption | omega)), x_sq_n (c := x_cN b (x_en b p0) 1 9) (by (first | decide +kernel | with_reducible assumption | omega))], p196.2.2.1.2, R221⟩, by (first | decide +kernel | with_reducible assumption | omega), by (first | decide +kernel | with_reducible assumption | omega), by (first | decide +kernel | with_reducible assumption | omega)⟩⟩⟩
def S_Mod_readDebtX : List (Nat × Option Nat) := [(116, some 16), (116, some 17), (116, some 18), (116, some 19), (116, some 20), (116, some 21), (119, none)]
abbrev q_Mod_readDebtX (h : Hp) (b : Int → Int) (T : Nat → Int → Int) (D : Nat → Int) (p0 : Int) (s : Int32) (sZ : Int) (p : Int32) (pZ : Int) (g : Int32) (gZ : Int) (k : Int32) (kZ : Int) (v : Int32) (vZ : Int) (w : Int32) (wZ : Int) (a : Int32) (aZ : Int) (m : Int32) (mZ : Int) : Option Value → Hp → Prop := pVd (fun h' => Inv h' ∧ fr S_Mod_readDebtX h h' ∧ ∃ (q : Int32) (qZ : Int), q.toInt = qZ ∧ h'.1 116 16 = q ∧ ∃ (f : Int32) (fZ : Int), f.toInt = fZ ∧ h'.1 116 17 = f ∧ ∃ (m : Int32) (mZ : Int), m.toInt = mZ ∧ h'.1 116 18 = m ∧ ∃ (x : Int32) (xZ : Int), x.toInt = xZ ∧ h'.1 116 19 = x ∧ ∃ (u : Int32) (uZ : Int), u.toInt = uZ ∧ h'.1 116 20 = u ∧ ∃ (y : Int32) (yZ : Int), y.toInt = yZ ∧ h'.1 116 21 = y ∧ ((uZ ≠ 0 ∧ x_l9 b T p0 = (uZ, yZ) ∨ uZ = 0 ∧ x_l9 b T p0 = x_sq (x_cS b (x_en b (x_en b (x_en b p0)))) (x_fr b (x_en b (x_en b (x_en b p0)))) (0, x_en b (x_en b (x_en b (x_en b p0)))) ∧ (fZ = x_fr b (x_en b (x_en b (x_en b p0))) ∧ mZ = x_kd b (x_en b (x_en b (x_en b p0))) ∧ mZ ≠ 4 ∧ 0 ≤ mZ ∧ mZ ≤ 3 ∧ qZ = x_en b (x_en b (x_en b (x_en b p0))) ∧ (mZ ≠ 2 ∨ xZ = x_vl b (x_en b (x_en b (x_en b p0))) ∧ 0 ≤ xZ ∧ xZ ≤ 99) ∧ (x_en b (x_en b (x_en b p0))) ≤ fZ ∧ fZ ≤ qZ ∧ qZ ≤ sZ ∧ (mZ = 0 ∨ fZ < qZ)) ∧ RM h' T (x_up (x_up (x_up (x_up D (87 + 3 * D 86) (x_vl b p0)) (88 + 3 * D 86) (x_vl b (x_en b p0))) (89 + 3 * D 86) (x_vl b (x_en b (x_en b p0)))) 86 (D 86 + 1))) ∧ 0 ≤ qZ ∧ qZ ≤ sZ ∧ 0 ≤ uZ))
set_option maxRecDepth 100000 in
theorem c_Mod_readDebtX (h : Hp) (b : Int → Int) (T : Nat → Int → Int) (D : Nat → Int) (p0 : Int) (hI : Inv h) (s : Int32) (sZ : Int) (sE : s.toInt = sZ) (sK : h.1 116 15 = s) (p : Int32) (pZ : Int) (pE : p.toInt = pZ) (pK : h.1 116 16 = p) (g : Int32) (gZ : Int) (gE : g.toInt = gZ) (gK : h.1 116 17 = g) (k : Int32) (kZ : Int) (kE : k.toInt = kZ) (kK : h.1 116 18 = k) (v : Int32) (vZ : Int) (vE : v.toInt = vZ) (vK : h.1 116 19 = v) (w : Int32) (wZ : Int) (wE : w.toInt = wZ) (wK : h.1 116 20 = w) (a : Int32) (aZ : Int) (aE : a.toInt = aZ) (aK : h.1 116 21 = a) (m : Int32) (mZ : Int) (mE : m.toInt = mZ) (mK : h.1 119 86 = m) (hy0 : TP h 121 sZ b) (hy1 : 0 ≤ pZ ∧ pZ ≤ sZ ∧ wZ = 0) (hy2 : gZ = x_fr b p0 ∧ kZ = x_kd b p0 ∧ kZ ≠ 4 ∧ 0 ≤ kZ ∧ kZ ≤ 3 ∧ pZ = x_en b p0 ∧ (kZ ≠ 2 ∨ vZ = x_vl b p0 ∧ 0 ≤ vZ ∧ vZ ≤ 99) ∧ p0 ≤ gZ ∧ gZ ≤ pZ ∧ pZ ≤ sZ ∧ (kZ = 0 ∨ gZ < pZ)) (hy3 : RM h T D) (hy4 : mZ < 8) : Ct y_Mod_readDebt b_Mod_readDebt 3 none 3 70 [.ref 116] h (q_Mod_readDebtX h b T D p0 s sZ p pZ g gZ k kZ v vZ w wZ a aZ m mZ) := by
  refine ct_ow R_Mod [some (.ref 116), none, none] rfl (by decide) rfl (Nat.le_of_ble_eq_true rfl) ?_
  have f0 : fr S_Mod_readDebtX h h := fr_rf
  have g1 : 0 ≤ sZ ∧ sZ ≤ 160 := inv_at hI sE sK.symm rfl
  have g2 : 0 ≤ pZ ∧ pZ ≤ 160 := inv_at hI pE pK.symm rfl
  have g3 : 0 ≤ gZ ∧ gZ ≤ 160 := inv_at hI gE gK.symm rfl
  have g9 : 0 ≤ mZ ∧ mZ ≤ 8 := inv_at hI mE mK.symm rfl
  have g8 := RM_many hy3 mK mE
  refine V_bipush 87 d_Mod_readDebt_0 (by decide) ?_
  refine V_iconst 3 d_Mod_readDebt_2 (by decide) ?_
  refine V_aload_n 0 d_Mod_readDebt_3 rfl rfl ?_
  refine V_getR fa_Mod_17 sk_116 rfl d_Mod_readDebt_4 ?_
  refine V_bipush 86 d_Mod_readDebt_7 (by decide) ?_
  refine N_ialdK sk_119 tc_86 (by (first | decide +kernel | with_reducible assumption | omega)) d_Mod_readDebt_9 mK ?_
  refine V_imul tc_3 mE (by (first | decide +kernel | with_reducible assumption | omega)) d_Mod_readDebt_10 (fun z5 z5e z5E => ?_)
  refine V_iadd tc_87 z5E (by (first | decide +kernel | with_reducible assumption | omega)) d_Mod_readDebt_11 (fun z6 z6e z6E => ?_)
  refine V_istore_n 1 [some (.ref 116), some (.int z6), none] d_Mod_readDebt_12 rfl (by decide) rfl rfl ?_
  refine V_aload_n 0 d_Mod_readDebt_13 rfl rfl ?_
  refine V_getR fa_Mod_17 sk_116 rfl d_Mod_readDebt_14 ?_
  refine V_iload_n 1 d_Mod_readDebt_17 rfl rfl ?_
  refine V_aload_n 0 d_Mod_readDebt_18 rfl rfl ?_
  refine V_iconst 0 d_Mod_readDebt_19 (by decide) ?_
  refine V_iconst 3 d_Mod_readDebt_20 (by decide) ?_
  refine N_callVI [.int 0, .int 3] [.int z6, .ref 119] cv_Mod_158 sk_116 rfl d_Mod_readDebt_21 rfl (Nat.le_of_ble_eq_true rfl) (by decide) (by decide) (c_Mod_readNumberX h b p0 hI 0 0 tc_0 3 3 tc_3 s sZ sE sK p pZ pE pK g gZ gE gK k kZ kE kK v vZ vE vK w wZ wE wK a aZ aE aK (TP_fr f0 (fun _ => rfl) hy0) (by (first | decide +kernel | with_reducible assumption | omega)) (Or.inr ⟨by (first | decide +kernel | with_reducible assumption | omega), by (first | decide +kernel | with_reducible assumption | omega), by (first | decide +kernel | with_reducible assumption | omega), by (first | decide +kernel | with_reducible assumption | omega), by (first | decide +kernel | with_reducible assumption | omega), by (first | decide +kernel | with_reducible assumption | omega), by (first | decide +kernel | with_reducible assumption | omega), by (first | decide +kernel | with_reducible assumption | omega), by (first | decide +kernel | with_reducible assumption | omega), by (first | decide +kernel | with_reducible assumption | omega), by (first | decide +kernel | with_reducible assumption | omega)⟩)) (fun z7 h8 z7Z z7E p9 => ?_)
  obtain ⟨hI10, fh8, o12, o12Z, o12E, o12K, o13, o13Z, o13E, o13K, o14, o14Z, o14E, o14K, o15, o15Z, o15E, o15K, o16, o16Z, o16E, o16K, o17, o17Z, o17E, o17K, p9⟩ := p9
  have f11 : fr S_Mod_readDebtX h h8 := fr_call f0 fh8 rfl
  have R18 : RM h8 T D := RM_fr fh8 rfl hy3
  have g19 : 0 ≤ o12Z ∧ o12Z ≤ 160 := inv_at hI10 o12E o12K.symm rfl
  have g20 : 0 ≤ o13Z ∧ o13Z ≤ 160 := inv_at hI10 o13E o13K.symm rfl
  rcases (dj3 _ _ : o16Z ≠ 0 ∧ x_cN b p0 0 3 ≠ 0 ∨ o16Z ≠ 0 ∧ x_cN b p0 0 3 = 0 ∨ o16Z = 0) with c21 | c21 | c21
  ·
    replace p9 := And.intro ((p9.1.resolve_left (fun q => by (first | decide +kernel | with_reducible assumption | omega))).resolve_right (fun q => by (first | decide +kernel | with_reducible assumption | omega))) p9.2
    refine N_iast sk_119 z6E (by (first | decide +kernel | with_reducible assumption | omega)) d_Mod_readDebt_24 (fun h22 eh22 => ?_)
    have hI23 : Inv h22 := inv_put hI10 eh22 (st_a (by (first | decide +kernel | with_reducible assumption | omega))) z7E (by (first | decide +kernel | with_reducible assumption | omega))
    have f24 : fr S_Mod_readDebtX h h22 := fr_put f11 eh22 rfl
    refine V_aload_n 0 d_Mod_readDebt_25 rfl rfl ?_
    refine V_iconst 0 d_Mod_readDebt_26 (by decide) ?_
    refine V_iconst 3 d_Mod_readDebt_27 (by decide) ?_
    refine N_callVI [.int 0, .int 3] [] cv_Mod_148 sk_116 rfl d_Mod_readDebt_28 rfl (Nat.le_of_ble_eq_true rfl) (by decide) (by decide) (c_Mod_lookedX h22 hI23 0 0 tc_0 3 3 tc_3 o13 o13Z o13E (kn_ne eh22 o13K (by decide)) o14 o14Z o14E (kn_ne eh22 o14K (by decide)) o15 o15Z o15E (kn_ne eh22 o15K (by decide)) o16 o16Z o16E (kn_ne eh22 o16K (by decide)) o17 o17Z o17E (kn_ne eh22 o17K (by decide))) (fun z25 h26 z25Z z25E p27 => ?_)
    obtain ⟨hI28, fh26, o30, o30Z, o30E, o30K, o31, o31Z, o31E, o31K, p27⟩ := p27
    have f29 : fr S_Mod_readDebtX h h26 := fr_call f24 fh26 rfl
    replace p27 := p27.resolve_right (fun q => by (first | decide +kernel | with_reducible assumption | omega))
    refine V_istore_n 2 [some (.ref 116), some (.int z6), some (.int z25)] d_Mod_readDebt_31 rfl (by decide) rfl rfl ?_
    refine V_aload_n 0 d_Mod_readDebt_32 rfl rfl ?_
    refine N_getK fa_Mod_102 sk_116 rfl d_Mod_readDebt_33 o30K ?_
    refine V_if_ne 59 o30E d_Mod_readDebt_36 (by decide) (fun c32 => ?_) (fun c32 => ?_)
    ·
      refine V_aload_n 0 d_Mod_readDebt_59 rfl rfl ?_
      refine N_callVV [] [] cv_Mod_152 sk_116 rfl d_Mod_readDebt_60 rfl (Nat.le_of_ble_eq_true rfl) (by decide) (by decide) (c_Mod_nextX h26 b hI28 s sZ sE (kn_call fh26 (kn_ne eh22 (kn_call fh8 sK rfl) (by decide)) rfl) o12 o12Z o12E (kn_call fh26 (kn_ne eh22 o12K (by decide)) rfl) o13 o13Z o13E (kn_call fh26 (kn_ne eh22 o13K (by decide)) rfl) o14 o14Z o14E (kn_call fh26 (kn_ne eh22 o14K (by decide)) rfl) o15 o15Z o15E (kn_call fh26 (kn_ne eh22 o15K (by decide)) rfl) o30 o30Z o30E o30K o31 o31Z o31E o31K (TP_fr f29 (fun _ => rfl) hy0) (by (first | decide +kernel | with_reducible assumption | omega))) (fun h34 p35 => ?_)
      obtain ⟨hI36, fh34, o38, o38Z, o38E, o38K, o39, o39Z, o39E, o39K, o40, o40Z, o40E, o40K, o41, o41Z, o41E, o41K, o42, o42Z, o42E, o42K, o43, o43Z, o43E, o43K, p35⟩ := p35
      have f37 : fr S_Mod_readDebtX h h34 := fr_call f29 fh34 rfl
      have g44 : 0 ≤ o38Z ∧ o38Z ≤ 160 := inv_at hI36 o38E o38K.symm rfl
      have g45 : 0 ≤ o39Z ∧ o39Z ≤ 160 := inv_at hI36 o39E o39K.symm rfl
      replace p35 := p35.resolve_right (fun q => absurd q.1 (by (first | decide +kernel | with_reducible assumption | omega)))
      refine V_aload_n 0 d_Mod_readDebt_63 rfl rfl ?_
      refine V_getR fa_Mod_17 sk_116 rfl d_Mod_readDebt_64 ?_
      refine V_iload_n 1 d_Mod_readDebt_67 rfl rfl ?_
      refine V_iconst 1 d_Mod_readDebt_68 (by decide) ?_
      refine V_iadd z6E tc_1 (by (first | decide +kernel | with_reducible assumption | omega)) d_Mod_readDebt_69 (fun z46 z46e z46E => ?_)
      refine V_iload_n 2 d_Mod_readDebt_70 rfl rfl ?_
      refine N_iast sk_119 z46E (by (first | decide +kernel | with_reducible assumption | omega)) d_Mod_readDebt_71 (fun h47 eh47 => ?_)
      have hI48 : Inv h47 := inv_put hI36 eh47 (st_a (by (first | decide +kernel | with_reducible assumption | omega))) z25E (by (first | decide +kernel | with_reducible assumption | omega))
      have f49 : fr S_Mod_readDebtX h h47 := fr_put f37 eh47 rfl
      refine V_aload_n 0 d_Mod_readDebt_72 rfl rfl ?_
      refine V_getR fa_Mod_17 sk_116 rfl d_Mod_readDebt_73 ?_
      refine V_iload_n 1 d_Mod_readDebt_76 rfl rfl ?_
      refine V_iconst 2 d_Mod_readDebt_77 (by decide) ?_
      refine V_iadd z6E tc_2 (by (first | decide +kernel | with_reducible assumption | omega)) d_Mod_readDebt_78 (fun z50 z50e z50E => ?_)
      refine V_aload_n 0 d_Mod_readDebt_79 rfl rfl ?_
      refine V_iconst 1 d_Mod_readDebt_80 (by decide) ?_
      refine V_bipush 99 d_Mod_readDebt_81 (by decide) ?_
      refine N_callVI [.int 1, .int 99] [.int z50, .ref 119] cv_Mod_158 sk_116 rfl d_Mod_readDebt_83 rfl (Nat.le_of_ble_eq_true rfl) (by decide) (by decide) (c_Mod_readNumberX h47 b (x_en b (x_en b p0)) hI48 1 1 tc_1 99 99 tc_99 s sZ sE (kn_ne eh47 (kn_call fh34 (kn_call fh26 (kn_ne eh22 (kn_call fh8 sK rfl) (by decide)) rfl) rfl) (by decide)) o38 o38Z o38E (kn_ne eh47 o38K (by decide)) o39 o39Z o39E (kn_ne eh47 o39K (by decide)) o40 o40Z o40E (kn_ne eh47 o40K (by decide)) o41 o41Z o41E (kn_ne eh47 o41K (by decide)) o42 o42Z o42E (kn_ne eh47 o42K (by decide)) o43 o43Z o43E (kn_ne eh47 o43K (by decide)) (TP_fr f49 (fun _ => rfl) hy0) (by (first | decide +kernel | with_reducible assumption | omega)) (Or.inl (by (first | decide +kernel | with_reducible assumption | omega)))) (fun z51 h52 z51Z z51E p53 => ?_)
      obtain ⟨hI54, fh52, o56, o56Z, o56E, o56K, o57, o57Z, o57E, o57K, o58, o58Z, o58E, o58K, o59, o59Z, o59E, o59K, o60, o60Z, o60E, o60K, o61, o61Z, o61E, o61K, p53⟩ := p53
      have f55 : fr S_Mod_readDebtX h h52 := fr_call f49 fh52 rfl
      have g62 : 0 ≤ o56Z ∧ o56Z ≤ 160 := inv_at hI54 o56E o56K.symm rfl
      have g63 : 0 ≤ o57Z ∧ o57Z ≤ 160 := inv_at hI54 o57E o57K.symm rfl
      replace p53 := And.intro (p53.1.resolve_right (fun q => by (first | decide +kernel | with_reducible assumption | omega))) p53.2
      refine N_iast sk_119 z50E (by (first | decide +kernel | with_reducible assumption | omega)) d_Mod_readDebt_86 (fun h64 eh64 => ?_)
      have hI65 : Inv h64 := inv_full hI54 eh64 (st_b (by (first | decide +kernel | with_reducible assumption | omega)))
      have f66 : fr S_Mod_readDebtX h h64 := fr_put f55 eh64 rfl
      refine V_aload_n 0 d_Mod_readDebt_87 rfl rfl ?_
      refine V_getR fa_Mod_17 sk_116 rfl d_Mod_readDebt_88 ?_
      refine V_bipush 86 d_Mod_readDebt_91 (by decide) ?_
      refine V_dup2 d_Mod_readDebt_93 rfl rfl ?_
      refine N_ialdK sk_119 tc_86 (by (first | decide +kernel | with_reducible assumption | omega)) d_Mod_readDebt_94 (kn_nei eh64 (kn_call fh52 (kn_nei eh47 (kn_call fh34 (kn_call fh26 (kn_nei eh22 (kn_call fh8 mK rfl) (by (first | decide +kernel | with_reducible assumption | omega))) rfl) rfl) (by (first | decide +kernel | with_reducible assumption | omega))) rfl) (by (first | decide +kernel | with_reducible assumption | omega))) ?_
      refine V_iconst 1 d_Mod_readDebt_95 (by decide) ?_
      refine V_iadd mE tc_1 (by (first | decide +kernel | with_reducible assumption | omega)) d_Mod_readDebt_96 (fun z68 z68e z68E => ?_)
      refine N_iast sk_119 tc_86 (by (first | decide +kernel | with_reducible assumption | omega)) d_Mod_readDebt_97 (fun h69 eh69 => ?_)
      have hI70 : Inv h69 := inv_put (lo := 0) (hi := 8) hI65 eh69 rfl z68E (by (first | decide +kernel | with_reducible assumption | omega))
      have f71 : fr S_Mod_readDebtX h h69 := fr_put f66 eh69 rfl
      exact V_vret rfl d_Mod_readDebt_98 ⟨rfl, ⟨hI70, f71, o56, o56Z, o56E, (kn_ne eh69 (kn_ne eh64 o56K (by decide)) (by decide)), o57, o57Z, o57E, (kn_ne eh69 (kn_ne eh64 o57K (by decide)) (by decide)), o58, o58Z, o58E, (kn_ne eh69 (kn_ne eh64 o58K (by decide)) (by decide)), o59, o59Z, o59E, (kn_ne eh69 (kn_ne eh64 o59K (by decide)) (by decide)), o60, o60Z, o60E, (kn_ne eh69 (kn_ne eh64 o60K (by decide)) (by decide)), o61, o61Z, o61E, (kn_ne eh69 (kn_ne eh64 o61K (by decide)) (by decide)), ⟨Or.inl ⟨by (first | decide +kernel | with_reducible assumption | omega), (show x_l9 b T p0 = (x_cN b p0 0 3, x_fr b p0) from by unfold x_l9; rw [x_sq_y (c := x_cN b p0 0 3) (by (first | decide +kernel | with_reducible assumption | omega))]).trans (pq (by (first | decide +kernel | with_reducible assumption | omega)) (by (first | decide +kernel | with_reducible assumption | omega)))⟩, by (first | decide +kernel | with_reducible assumption | omega), by (first | decide +kernel | with_reducible assumption | omega), by (first | decide +kernel | with_reducible assumption | omega)⟩⟩⟩
    ·
      exact absurd c32 (by (first | decide +kernel | with_reducible assumption | omega))
  ·
    replace p9 := And.intro ((p9.1.resolve_left (fun q => by (first | decide +kernel | with_reducible assumption | omega))).resolve_left (fun q => by (first | decide +kernel | with_reducible assumption | omega))).2.1 (And.intro ((p9.1.resolve_left (fun q => by (first | decide +kernel | with_reducible assumption | omega))).resolve_left (fun q => by (first | decide +kernel | with_reducible assumption | omega))).2.2.1 (And.intro (((p9.1.resolve_left (fun q => by (first | decide +kernel | with_reducible assumption | omega))).resolve_left (fun q => by (first | decide +kernel | with_reducible assumption | omega))).2.2.2.resolve_right (fun q => by (first | decide +kernel | with_reducible assumption | omega))) p9.2))
    have g72 := x_cN_0 p9.1
    have g73 := x_cN_4 (b := b) (p := (x_en b p0)) 0 3 (by (first | decide +kernel | with_reducible assumption | omega))
    refine N_iast sk_119 z6E (by (first | decide +kernel | with_reducible assumption | omega)) d_Mod_readDebt_24 (fun h74 eh74 => ?_)
    have hI75 : Inv h74 := inv_put hI10 eh74 (st_a (by (first | decide +kernel | with_reducible assumption | omega))) z7E (by (first | decide +kernel | with_reducible assumption | omega))
    have f76 : fr S_Mod_readDebtX h h74 := fr_put f11 eh74 rfl
    refine V_aload_n 0 d_Mod_readDebt_25 rfl rfl ?_
    refine V_iconst 0 d_Mod_readDebt_26 (by decide) ?_
    refine V_iconst 3 d_Mod_readDebt_27 (by decide) ?_
    refine N_callVI [.int 0, .int 3] [] cv_Mod_148 sk_116 rfl d_Mod_readDebt_28 rfl (Nat.le_of_ble_eq_true rfl) (by decide) (by decide) (c_Mod_lookedX h74 hI75 0 0 tc_0 3 3 tc_3 o13 o13Z o13E (kn_ne eh74 o13K (by decide)) o14 o14Z o14E (kn_ne eh74 o14K (by decide)) o15 o15Z o15E (kn_ne eh74 o15K (by decide)) o16 o16Z o16E (kn_ne eh74 o16K (by decide)) o17 o17Z o17E (kn_ne eh74 o17K (by decide))) (fun z77 h78 z77Z z77E p79 => ?_)
    obtain ⟨hI80, fh78, o82, o82Z, o82E, o82K, o83, o83Z, o83E, o83K, p79⟩ := p79
    have f81 : fr S_Mod_readDebtX h h78 := fr_call f76 fh78 rfl
    replace p79 := p79.resolve_right (fun q => by (first | decide +kernel | with_reducible assumption | omega))
    refine V_istore_n 2 [some (.ref 116), some (.int z6), some (.int z77)] d_Mod_readDebt_31 rfl (by decide) rfl rfl ?_
    refine V_aload_n 0 d_Mod_readDebt_32 rfl rfl ?_
    refine N_getK fa_Mod_102 sk_116 rfl d_Mod_readDebt_33 o82K ?_
    refine V_if_ne 59 o82E d_Mod_readDebt_36 (by decide) (fun c84 => ?_) (fun c84 => ?_)
    ·
      refine V_aload_n 0 d_Mod_readDebt_59 rfl rfl ?_
      refine N_callVV [] [] cv_Mod_152 sk_116 rfl d_Mod_readDebt_60 rfl (Nat.le_of_ble_eq_true rfl) (by decide) (by decide) (c_Mod_nextX h78 b hI80 s sZ sE (kn_call fh78 (kn_ne eh74 (kn_call fh8 sK rfl) (by decide)) rfl) o12 o12Z o12E (kn_call fh78 (kn_ne eh74 o12K (by decide)) rfl) o13 o13Z o13E (kn_call fh78 (kn_ne eh74 o13K (by decide)) rfl) o14 o14Z o14E (kn_call fh78 (kn_ne eh74 o14K (by decide)) rfl) o15 o15Z o15E (kn_call fh78 (kn_ne eh74 o15K (by decide)) rfl) o82 o82Z o82E o82K o83 o83Z o83E o83K (TP_fr f81 (fun _ => rfl) hy0) (by (first | decide +kernel | with_reducible assumption | omega))) (fun h86 p87 => ?_)
      obtain ⟨hI88, fh86, o90, o90Z, o90E, o90K, o91, o91Z, o91E, o91K, o92, o92Z, o92E, o92K, o93, o93Z, o93E, o93K, o94, o94Z, o94E, o94K, o95, o95Z, o95E, o95K, p87⟩ := p87
      have f89 : fr S_Mod_readDebtX h h86 := fr_call f81 fh86 rfl
      have g96 : 0 ≤ o90Z ∧ o90Z ≤ 160 := inv_at hI88 o90E o90K.symm rfl
      have g97 : 0 ≤ o91Z ∧ o91Z ≤ 160 := inv_at hI88 o91E o91K.symm rfl
      replace p87 := p87.resolve_right (fun q => absurd q.1 (by (first | decide +kernel | with_reducible assumption | omega)))
      refine V_aload_n 0 d_Mod_readDebt_63 rfl rfl ?_
      refine V_getR fa_Mod_17 sk_116 rfl d_Mod_readDebt_64 ?_
      refine V_iload_n 1 d_Mod_readDebt_67 rfl rfl ?_
      refine V_iconst 1 d_Mod_readDebt_68 (by decide) ?_
      refine V_iadd z6E tc_1 (by (first | decide +kernel | with_reducible assumption | omega)) d_Mod_readDebt_69 (fun z98 z98e z98E => ?_)
      refine V_iload_n 2 d_Mod_readDebt_70 rfl rfl ?_
      refine N_iast sk_119 z98E (by (first | decide +kernel | with_reducible assumption | omega)) d_Mod_readDebt_71 (fun h99 eh99 => ?_)
      have hI100 : Inv h99 := inv_put hI88 eh99 (st_a (by (first | decide +kernel | with_reducible assumption | omega))) z77E (by (first | decide +kernel | with_reducible assumption | omega))
      have f101 : fr S_Mod_readDebtX h h99 := fr_put f89 eh99 rfl
      refine V_aload_n 0 d_Mod_readDebt_72 rfl rfl ?_
      refine V_getR fa_Mod_17 sk_116 rfl d_Mod_readDebt_73 ?_
      refine V_iload_n 1 d_Mod_readDebt_76 rfl rfl ?_
      refine V_iconst 2 d_Mod_readDebt_77 (by decide) ?_
      refine V_iadd z6E tc_2 (by (first | decide +kernel | with_reducible assumption | omega)) d_Mod_readDebt_78 (fun z102 z102e z102E => ?_)
      refine V_aload_n 0 d_Mod_readDebt_79 rfl rfl ?_
      refine V_iconst 1 d_Mod_readDebt_80 (by decide) ?_
      refine V_bipush 99 d_Mod_readDebt_81 (by decide) ?_
      refine N_callVI [.int 1, .int 99] [.int z102, .ref 119] cv_Mod_158 sk_116 rfl d_Mod_readDebt_83 rfl (Nat.le_of_ble_eq_true rfl) (by decide) (by decide) (c_Mod_readNumberX h99 b (x_en b (x_en b p0)) hI100 1 1 tc_1 99 99 tc_99 s sZ sE (kn_ne eh99 (kn_call fh86 (kn_call fh78 (kn_ne eh74 (kn_call fh8 sK rfl) (by decide)) rfl) rfl) (by decide)) o90 o90Z o90E (kn_ne eh99 o90K (by decide)) o91 o91Z o91E (kn_ne eh99 o91K (by decide)) o92 o92Z o92E (kn_ne eh99 o92K (by decide)) o93 o93Z o93E (kn_ne eh99 o93K (by decide)) o94 o94Z o94E (kn_ne eh99 o94K (by decide)) o95 o95Z o95E (kn_ne eh99 o95K (by decide)) (TP_fr f101 (fun _ => rfl) hy0) (by (first | decide +kernel | with_reducible assumption | omega)) (Or.inl (by (first | decide +kernel | with_reducible assumption | omega)))) (fun z103 h104 z103Z z103E p105 => ?_)
      obtain ⟨hI106, fh104, o108, o108Z, o108E, o108K, o109, o109Z, o109E, o109K, o110, o110Z, o110E, o110K, o111, o111Z, o111E, o111K, o112, o112Z, o112E, o112K, o113, o113Z, o113E, o113K, p105⟩ := p105
      have f107 : fr S_Mod_readDebtX h h104 := fr_call f101 fh104 rfl
      have g114 : 0 ≤ o108Z ∧ o108Z ≤ 160 := inv_at hI106 o108E o108K.symm rfl
      have g115 : 0 ≤ o109Z ∧ o109Z ≤ 160 := inv_at hI106 o109E o109K.symm rfl
      replace p105 := And.intro (p105.1.resolve_right (fun q => by (first | decide +kernel | with_reducible assumption | omega))) p105.2
      refine N_iast sk_119 z102E (by (first | decide +kernel | with_reducible assumption | omega)) d_Mod_readDebt_86 (fun h116 eh116 => ?_)
      have hI117 : Inv h116 := inv_full hI106 eh116 (st_b (by (first | decide +kernel | with_reducible assumption | omega)))
      have f118 : fr S_Mod_readDebtX h h116 := fr_put f107 eh116 rfl
      refine V_aload_n 0 d_Mod_readDebt_87 rfl rfl ?_
      refine V_getR fa_Mod_17 sk_116 rfl d_Mod_readDebt_88 ?_
      refine V_bipush 86 d_Mod_readDebt_91 (by decide) ?_
      refine V_dup2 d_Mod_readDebt_93 rfl rfl ?_
      refine N_ialdK sk_119 tc_86 (by (first | decide +kernel | with_reducible assumption | omega)) d_Mod_readDebt_94 (kn_nei eh116 (kn_call fh104 (kn_nei eh99 (kn_call fh86 (kn_call fh78 (kn_nei eh74 (kn_call fh8 mK rfl) (by (first | decide +kernel | with_reducible assumption | omega))) rfl) rfl) (by (first | decide +kernel | with_reducible assumption | omega))) rfl) (by (first | decide +kernel | with_reducible assumption | omega))) ?_
      refine V_iconst 1 d_Mod_readDebt_95 (by decide) ?_
      refine V_iadd mE tc_1 (by (first | decide +kernel | with_reducible assumption | omega)) d_Mod_readDebt_96 (fun z120 z120e z120E => ?_)
      refine N_iast sk_119 tc_86 (by (first | decide +kernel | with_reducible assumption | omega)) d_Mod_readDebt_97 (fun h121 eh121 => ?_)
      have hI122 : Inv h121 := inv_put (lo := 0) (hi := 8) hI117 eh121 rfl z120E (by (first | decide +kernel | with_reducible assumption | omega))
      have f123 : fr S_Mod_readDebtX h h121 := fr_put f118 eh121 rfl
      exact V_vret rfl d_Mod_readDebt_98 ⟨rfl, ⟨hI122, f123, o108, o108Z, o108E, (kn_ne eh121 (kn_ne eh116 o108K (by decide)) (by decide)), o109, o109Z, o109E, (kn_ne eh121 (kn_ne eh116 o109K (by decide)) (by decide)), o110, o110Z, o110E, (kn_ne eh121 (kn_ne eh116 o110K (by decide)) (by decide)), o111, o111Z, o111E, (kn_ne eh121 (kn_ne eh116 o111K (by decide)) (by decide)), o112, o112Z, o112E, (kn_ne eh121 (kn_ne eh116 o112K (by decide)) (by decide)), o113, o113Z, o113E, (kn_ne eh121 (kn_ne eh116 o113K (by decide)) (by decide)), ⟨Or.inl ⟨by (first | decide +kernel | with_reducible assumption | omega), (show x_l9 b T p0 = (x_cN b (x_en b p0) 0 3, x_fr b (x_en b p0)) from by unfold x_l9; rw [x_sq_n (c := x_cN b p0 0 3) (by (first | decide +kernel | with_reducible assumption | omega)), x_sq_y (c := x_cN b (x_en b p0) 0 3) (by (first | decide +kernel | with_reducible assumption | omega))]).trans (pq (by (first | decide +kernel | with_reducible assumption | omega)) (by (first | decide +kernel | with_reducible assumption | omega)))⟩, by (first | decide +kernel | with_reducible assumption | omega), by (first | decide +kernel | with_reducible assumption | omega), by (first | decide +kernel | with_reducible assumption | omega)⟩⟩⟩
    ·
      exact absurd c84 (by (first | decide +kernel | with_reducible assumption | omega))
  ·
    replace p9 := And.intro ((p9.1.resolve_left (fun q => by (first | decide +kernel | with_reducible assumption | omega))).resolve_left (fun q => by (first | decide +kernel | with_reducible assumption | omega))).2.1 (And.intro ((p9.1.resolve_left (fun q => by (first | decide +kernel | with_reducible assumption | omega))).resolve_left (fun q => by (first | decide +kernel | with_reducible assumption | omega))).2.2.1 (And.intro (((p9.1.resolve_left (fun q => by (first | decide +kernel | with_reducible assumption | omega))).resolve_left (fun q => by (first | decide +kernel | with_reducible assumption | omega))).2.2.2.resolve_left (fun q => by (first | decide +kernel | with_reducible assumption | omega))) p9.2))
    have g124 := x_cN_0 p9.1
    refine N_iast sk_119 z6E (by (first | decide +kernel | with_reducible assumption | omega)) d_Mod_readDebt_24 (fun h125 eh125 => ?_)
    have hI126 : Inv h125 := inv_put hI10 eh125 (st_a (by (first | decide +kernel | with_reducible assumption | omega))) z7E (by (first | decide +kernel | with_reducible assumption | omega))
    have f127 : fr S_Mod_readDebtX h h125 := fr_put f11 eh125 rfl
    have R128 : RM h125 T (x_up D (87 + 3 * D 86) (x_vl b p0)) := RM_put R18 eh125 (Or.inl ⟨rfl, by (first | decide +kernel | with_reducible assumption | omega), rfl⟩) (z7E.trans (by (first | decide +kernel | with_reducible assumption | omega))) (by (first | decide +kernel | with_reducible assumption | omega))
    refine V_aload_n 0 d_Mod_readDebt_25 rfl rfl ?_
    refine V_iconst 0 d_Mod_readDebt_26 (by decide) ?_
    refine V_iconst 3 d_Mod_readDebt_27 (by decide) ?_
    refine N_callVI [.int 0, .int 3] [] cv_Mod_148 sk_116 rfl d_Mod_readDebt_28 rfl (Nat.le_of_ble_eq_true rfl) (by decide) (by decide) (c_Mod_lookedX h125 hI126 0 0 tc_0 3 3 tc_3 o13 o13Z o13E (kn_ne eh125 o13K (by decide)) o14 o14Z o14E (kn_ne eh125 o14K (by decide)) o15 o15Z o15E (kn_ne eh125 o15K (by decide)) o16 o16Z o16E (kn_ne eh125 o16K (by decide)) o17 o17Z o17E (kn_ne eh125 o17K (by decide))) (fun z129 h130 z129Z z129E p131 => ?_)
    obtain ⟨hI132, fh130, o134, o134Z, o134E, o134K, o135, o135Z, o135E, o135K, p131⟩ := p131
    have f133 : fr S_Mod_readDebtX h h130 := fr_call f127 fh130 rfl
    have R136 : RM h130 T (x_up D (87 + 3 * D 86) (x_vl b p0)) := RM_fr fh130 rfl R128
    replace p131 := lk_num (b := b) (p := (x_en b p0)) (k := o14Z) (v := o15Z) (by (first | decide +kernel | with_reducible assumption | omega)) (by (first | decide +kernel | with_reducible assumption | omega)) (by (first | decide +kernel | with_reducible assumption | omega)) (by (first | decide +kernel | with_reducible assumption | omega)) p131
    refine V_istore_n 2 [some (.ref 116), some (.int z6), some (.int z129)] d_Mod_readDebt_31 rfl (by decide) rfl rfl ?_
    rcases (dj2 _ : x_cN b (x_en b p0) 0 3 ≠ 0 ∨ x_cN b (x_en b p0) 0 3 = 0) with c137 | c137
    ·
      replace p131 := p131.resolve_right (fun q => by (first | decide +kernel | with_reducible assumption | omega))
      refine V_aload_n 0 d_Mod_readDebt_32 rfl rfl ?_
      refine N_getK fa_Mod_102 sk_116 rfl d_Mod_readDebt_33 o134K ?_
      refine V_if_ne 59 o134E d_Mod_readDebt_36 (by decide) (fun c138 => ?_) (fun c138 => ?_)
      ·
        refine V_aload_n 0 d_Mod_readDebt_59 rfl rfl ?_
        refine N_callVV [] [] cv_Mod_152 sk_116 rfl d_Mod_readDebt_60 rfl (Nat.le_of_ble_eq_true rfl) (by decide) (by decide) (c_Mod_nextX h130 b hI132 s sZ sE (kn_call fh130 (kn_ne eh125 (kn_call fh8 sK rfl) (by decide)) rfl) o12 o12Z o12E (kn_call fh130 (kn_ne eh125 o12K (by decide)) rfl) o13 o13Z o13E (kn_call fh130 (kn_ne eh125 o13K (by decide)) rfl) o14 o14Z o14E (kn_call fh130 (kn_ne eh125 o14K (by decide)) rfl) o15 o15Z o15E (kn_call fh130 (kn_ne eh125 o15K (by decide)) rfl) o134 o134Z o134E o134K o135 o135Z o135E o135K (TP_fr f133 (fun _ => rfl) hy0) (by (first | decide +kernel | with_reducible assumption | omega))) (fun h140 p141 => ?_)
        obtain ⟨hI142, fh140, o144, o144Z, o144E, o144K, o145, o145Z, o145E, o145K, o146, o146Z, o146E, o146K, o147, o147Z, o147E, o147K, o148, o148Z, o148E, o148K, o149, o149Z, o149E, o149K, p141⟩ := p141
        have f143 : fr S_Mod_readDebtX h h140 := fr_call f133 fh140 rfl
        have g150 : 0 ≤ o144Z ∧ o144Z ≤ 160 := inv_at hI142 o144E o144K.symm rfl
        have g151 : 0 ≤ o145Z ∧ o145Z ≤ 160 := inv_at hI142 o145E o145K.symm rfl
        replace p141 := p141.resolve_right (fun q => absurd q.1 (by (first | decide +kernel | with_reducible assumption | omega)))
        refine V_aload_n 0 d_Mod_readDebt_63 rfl rfl ?_
        refine V_getR fa_Mod_17 sk_116 rfl d_Mod_readDebt_64 ?_
        refine V_iload_n 1 d_Mod_readDebt_67 rfl rfl ?_
        refine V_iconst 1 d_Mod_readDebt_68 (by decide) ?_
        refine V_iadd z6E tc_1 (by (first | decide +kernel | with_reducible assumption | omega)) d_Mod_readDebt_69 (fun z152 z152e z152E => ?_)
        refine V_iload_n 2 d_Mod_readDebt_70 rfl rfl ?_
        refine N_iast sk_119 z152E (by (first | decide +kernel | with_reducible assumption | omega)) d_Mod_readDebt_71 (fun h153 eh153 => ?_)
        have hI154 : Inv h153 := inv_put hI142 eh153 (st_a (by (first | decide +kernel | with_reducible assumption | omega))) z129E (by (first | decide +kernel | with_reducible assumption | omega))
        have f155 : fr S_Mod_readDebtX h h153 := fr_put f143 eh153 rfl
        refine V_aload_n 0 d_Mod_readDebt_72 rfl rfl ?_
        refine V_getR fa_Mod_17 sk_116 rfl d_Mod_readDebt_73 ?_
        refine V_iload_n 1 d_Mod_readDebt_76 rfl rfl ?_
        refine V_iconst 2 d_Mod_readDebt_77 (by decide) ?_
        refine V_iadd z6E tc_2 (by (first | decide +kernel | with_reducible assumption | omega)) d_Mod_readDebt_78 (fun z156 z156e z156E => ?_)
        refine V_aload_n 0 d_Mod_readDebt_79 rfl rfl ?_
        refine V_iconst 1 d_Mod_readDebt_80 (by decide) ?_
        refine V_bipush 99 d_Mod_readDebt_81 (by decide) ?_
        refine N_callVI [.int 1, .int 99] [.int z156, .ref 119] cv_Mod_158 sk_116 rfl d_Mod_readDebt_83 rfl (Nat.le_of_ble_eq_true rfl) (by decide) (by decide) (c_Mod_readNumberX h153 b (x_en b (x_en b p0)) hI154 1 1 tc_1 99 99 tc_99 s sZ sE (kn_ne eh153 (kn_call fh140 (kn_call fh130 (kn_ne eh125 (kn_call fh8 sK rfl) (by decide)) rfl) rfl) (by decide)) o144 o144Z o144E (kn_ne eh153 o144K (by decide)) o145 o145Z o145E (kn_ne eh153 o145K (by decide)) o146 o146Z o146E (kn_ne eh153 o146K (by decide)) o147 o147Z o147E (kn_ne eh153 o147K (by decide)) o148 o148Z o148E (kn_ne eh153 o148K (by decide)) o149 o149Z o149E (kn_ne eh153 o149K (by decide)) (TP_fr f155 (fun _ => rfl) hy0) (by (first | decide +kernel | with_reducible assumption | omega)) (Or.inl (by (first | decide +kernel | with_reducible assumption | omega)))) (fun z157 h158 z157Z z157E p159 => ?_)
        obtain ⟨hI160, fh158, o162, o162Z, o162E, o162K, o163, o163Z, o163E, o163K, o164, o164Z, o164E, o164K, o165, o165Z, o165E, o165K, o166, o166Z, o166E, o166K, o167, o167Z, o167E, o167K, p159⟩ := p159
        have f161 : fr S_Mod_readDebtX h h158 := fr_call f155 fh158 rfl
        have g168 : 0 ≤ o162Z ∧ o162Z ≤ 160 := inv_at hI160 o162E o162K.symm rfl
        have g169 : 0 ≤ o163Z ∧ o163Z ≤ 160 := inv_at hI160 o163E o163K.symm rfl
        replace p159 := And.intro (p159.1.resolve_right (fun q => by (first | decide +kernel | with_reducible assumption | omega))) p159.2
        refine N_iast sk_119 z156E (by (first | decide +kernel | with_reducible assumption | omega)) d_Mod_readDebt_86 (fun h170 eh170 => ?_)
        have hI171 : Inv h170 := inv_full hI160 eh170 (st_b (by (first | decide +kernel | with_reducible assumption | omega)))
        have f172 : fr S_Mod_readDebtX h h170 := fr_put f161 eh170 rfl
        refine V_aload_n 0 d_Mod_readDebt_87 rfl rfl ?_
        refine V_getR fa_Mod_17 sk_116 rfl d_Mod_readDebt_88 ?_
        refine V_bipush 86 d_Mod_readDebt_91 (by decide) ?_
        refine V_dup2 d_Mod_readDebt_93 rfl rfl ?_
        refine N_ialdK sk_119 tc_86 (by (first | decide +kernel | with_reducible assumption | omega)) d_Mod_readDebt_94 (kn_nei eh170 (kn_call fh158 (kn_nei eh153 (kn_call fh140 (kn_call fh130 (kn_nei eh125 (kn_call fh8 mK rfl) (by (first | decide +kernel | with_reducible assumption | omega))) rfl) rfl) (by (first | decide +kernel | with_reducible assumption | omega))) rfl) (by (first | decide +kernel | with_reducible assumption | omega))) ?_
        refine V_iconst 1 d_Mod_readDebt_95 (by decide) ?_
        refine V_iadd mE tc_1 (by (first | decide +kernel | with_reducible assumption | omega)) d_Mod_readDebt_96 (fun z174 z174e z174E => ?_)
        refine N_iast sk_119 tc_86 (by (first | decide +kernel | with_reducible assumption | omega)) d_Mod_readDebt_97 (fun h175 eh175 => ?_)
        have hI176 : Inv h175 := inv_put (lo := 0) (hi := 8) hI171 eh175 rfl z174E (by (first | decide +kernel | with_reducible assumption | omega))
        have f177 : fr S_Mod_readDebtX h h175 := fr_put f172 eh175 rfl
        exact V_vret rfl d_Mod_readDebt_98 ⟨rfl, ⟨hI176, f177, o162, o162Z, o162E, (kn_ne eh175 (kn_ne eh170 o162K (by decide)) (by decide)), o163, o163Z, o163E, (kn_ne eh175 (kn_ne eh170 o163K (by decide)) (by decide)), o164, o164Z, o164E, (kn_ne eh175 (kn_ne eh170 o164K (by decide)) (by decide)), o165, o165Z, o165E, (kn_ne eh175 (kn_ne eh170 o165K (by decide)) (by decide)), o166, o166Z, o166E, (kn_ne eh175 (kn_ne eh170 o166K (by decide)) (by decide)), o167, o167Z, o167E, (kn_ne eh175 (kn_ne eh170 o167K (by decide)) (by decide)), ⟨Or.inl ⟨by (first | decide +kernel | with_reducible assumption | omega), (show x_l9 b T p0 = (x_cN b (x_en b p0) 0 3, x_fr b (x_en b p0)) from by unfold x_l9; rw [x_sq_n (c := x_cN b p0 0 3) (by (first | decide +kernel | with_reducible assumption | omega)), x_sq_y (c := x_cN b (x_en b p0) 0 3) (by (first | decide +kernel | with_reducible assumption | omega))]).trans (pq (by (first | decide +kernel | with_reducible assumption | omega)) (by (first | decide +kernel | with_reducible assumption | omega)))⟩, by (first | decide +kernel | with_reducible assumption | omega), by (first | decide +kernel | with_reducible assumption | omega), by (first | decide +kernel | with_reducible assumption | omega)⟩⟩⟩
      ·
        exact absurd c138 (by (first | decide +kernel | with_reducible assumption | omega))
    ·
      replace p131 := p131.resolve_left (fun q => by (first | decide +kernel | with_reducible assumption | omega))
      have g178 := x_cN_0 c137
      refine V_aload_n 0 d_Mod_readDebt_32 rfl rfl ?_
      refine N_getK fa_Mod_102 sk_116 rfl d_Mod_readDebt_33 o134K ?_
      refine V_if_ne 59 o134E d_Mod_readDebt_36 (by decide) (fun c179 => ?_) (fun c179 => ?_)
      ·
        exact absurd c179 (by (first | decide +kernel | with_reducible assumption | omega))
      ·
        refine V_aload_n 0 d_Mod_readDebt_39 rfl rfl ?_
        refine V_iload_n 2 d_Mod_readDebt_40 rfl rfl ?_
        refine V_aload_n 0 d_Mod_readDebt_41 rfl rfl ?_
        refine V_getR fa_Mod_17 sk_116 rfl d_Mod_readDebt_42 ?_
        refine V_iload_n 1 d_Mod_readDebt_45 rfl rfl ?_
        refine N_iald sk_119 z6E (by (first | decide +kernel | with_reducible assumption | omega)) d_Mod_readDebt_46 (fun z180 z180Z z180E z180e => ?_)
        have g181 : z180Z = z7Z := by have q := kn_call fh130 (kn_put eh125) rfl; rw [← z180E, z180e, q]; exact z7E
        have g182 := x_ce_s (x_vl b (x_en b p0)) (x_vl b p0)
        refine V_icmp_eq 54 z129E z180E d_Mod_readDebt_47 (by decide) (fun c183 => ?_) (fun c183 => ?_)
        ·
          refine V_iconst 0 d_Mod_readDebt_54 (by decide) ?_
          refine V_iconst 4 d_Mod_readDebt_55 (by decide) ?_
          refine N_callVV [.int 0, .int 4] [] cv_Mod_144 sk_116 rfl d_Mod_readDebt_56 rfl (Nat.le_of_ble_eq_true rfl) (by decide) (by decide) (c_Mod_needsX h130 hI132 0 0 tc_0 4 4 tc_4 o13 o13Z o13E (kn_call fh130 (kn_ne eh125 o13K (by decide)) rfl) o134 o134Z o134E o134K o135 o135Z o135E o135K) (fun h185 p186 => ?_)
          obtain ⟨hI187, fh185, o189, o189Z, o189E, o189K, o190, o190Z, o190E, o190K, p186⟩ := p186
          have f188 : fr S_Mod_readDebtX h h185 := fr_call f133 fh185 rfl
          refine V_aload_n 0 d_Mod_readDebt_59 rfl rfl ?_
          refine N_callVV [] [] cv_Mod_152 sk_116 rfl d_Mod_readDebt_60 rfl (Nat.le_of_ble_eq_true rfl) (by decide) (by decide) (c_Mod_nextX h185 b hI187 s sZ sE (kn_call fh185 (kn_call fh130 (kn_ne eh125 (kn_call fh8 sK rfl) (by decide)) rfl) rfl) o12 o12Z o12E (kn_call fh185 (kn_call fh130 (kn_ne eh125 o12K (by decide)) rfl) rfl) o13 o13Z o13E (kn_call fh185 (kn_call fh130 (kn_ne eh125 o13K (by decide)) rfl) rfl) o14 o14Z o14E (kn_call fh185 (kn_call fh130 (kn_ne eh125 o14K (by decide)) rfl) rfl) o15 o15Z o15E (kn_call fh185 (kn_call fh130 (kn_ne eh125 o15K (by decide)) rfl) rfl) o189 o189Z o189E o189K o190 o190Z o190E o190K (TP_fr f188 (fun _ => rfl) hy0) (by (first | decide +kernel | with_reducible assumption | omega))) (fun h192 p193 => ?_)
          obtain ⟨hI194, fh192, o196, o196Z, o196E, o196K, o197, o197Z, o197E, o197K, o198, o198Z, o198E, o198K, o199, o199Z, o199E, o199K, o200, o200Z, o200E, o200K, o201, o201Z, o201E, o201K, p193⟩ := p193
          have f195 : fr S_Mod_readDebtX h h192 := fr_call f188 fh192 rfl
          have g202 : 0 ≤ o196Z ∧ o196Z ≤ 160 := inv_at hI194 o196E o196K.symm rfl
          have g203 : 0 ≤ o197Z ∧ o197Z ≤ 160 := inv_at hI194 o197E o197K.symm rfl
          replace p193 := p193.resolve_right (fun q => absurd q.1 (by (first | decide +kernel | with_reducible assumption | omega)))
          refine V_aload_n 0 d_Mod_readDebt_63 rfl rfl ?_
          refine V_getR fa_Mod_17 sk_116 rfl d_Mod_readDebt_64 ?_
          refine V_iload_n 1 d_Mod_readDebt_67 rfl rfl ?_
          refine V_iconst 1 d_Mod_readDebt_68 (by decide) ?_
          refine V_iadd z6E tc_1 (by (first | decide +kernel | with_reducible assumption | omega)) d_Mod_readDebt_69 (fun z204 z204e z204E => ?_)
          refine V_iload_n 2 d_Mod_readDebt_70 rfl rfl ?_
          refine N_iast sk_119 z204E (by (first | decide +kernel | with_reducible assumption | omega)) d_Mod_readDebt_71 (fun h205 eh205 => ?_)
          have hI206 : Inv h205 := inv_put hI194 eh205 (st_a (by (first | decide +kernel | with_reducible assumption | omega))) z129E (by (first | decide +kernel | with_reducible assumption | omega))
          have f207 : fr S_Mod_readDebtX h h205 := fr_put f195 eh205 rfl
          refine V_aload_n 0 d_Mod_readDebt_72 rfl rfl ?_
          refine V_getR fa_Mod_17 sk_116 rfl d_Mod_readDebt_73 ?_
          refine V_iload_n 1 d_Mod_readDebt_76 rfl rfl ?_
          refine V_iconst 2 d_Mod_readDebt_77 (by decide) ?_
          refine V_iadd z6E tc_2 (by (first | decide +kernel | with_reducible assumption | omega)) d_Mod_readDebt_78 (fun z208 z208e z208E => ?_)
          refine V_aload_n 0 d_Mod_readDebt_79 rfl rfl ?_
          refine V_iconst 1 d_Mod_readDebt_80 (by decide) ?_
          refine V_bipush 99 d_Mod_readDebt_81 (by decide) ?_
          refine N_callVI [.int 1, .int 99] [.int z208, .ref 119] cv_Mod_158 sk_116 rfl d_Mod_readDebt_83 rfl (Nat.le_of_ble_eq_true rfl) (by decide) (by decide) (c_Mod_readNumberX h205 b (x_en b (x_en b p0)) hI206 1 1 tc_1 99 99 tc_99 s sZ sE (kn_ne eh205 (kn_call fh192 (kn_call fh185 (kn_call fh130 (kn_ne eh125 (kn_call fh8 sK rfl) (by decide)) rfl) rfl) rfl) (by decide)) o196 o196Z o196E (kn_ne eh205 o196K (by decide)) o197 o197Z o197E (kn_ne eh205 o197K (by decide)) o198 o198Z o198E (kn_ne eh205 o198K (by decide)) o199 o199Z o199E (kn_ne eh205 o199K (by decide)) o200 o200Z o200E (kn_ne eh205 o200K (by decide)) o201 o201Z o201E (kn_ne eh205 o201K (by decide)) (TP_fr f207 (fun _ => rfl) hy0) (by (first | decide +kernel | with_reducible assumption | omega)) (Or.inl (by (first | decide +kernel | with_reducible assumption | omega)))) (fun z209 h210 z209Z z209E p211 => ?_)
          obtain ⟨hI212, fh210, o214, o214Z, o214E, o214K, o215, o215Z, o215E, o215K, o216, o216Z, o216E, o216K, o217, o217Z, o217E, o217K, o218, o218Z, o218E, o218K, o219, o219Z, o219E, o219K, p211⟩ := p211
          have f213 : fr S_Mod_readDebtX h h210 := fr_call f207 fh210 rfl
          have g220 : 0 ≤ o214Z ∧ o214Z ≤ 160 := inv_at hI212 o214E o214K.symm rfl
          have g221 : 0 ≤ o215Z ∧ o215Z ≤ 160 := inv_at hI212 o215E o215K.symm rfl
          replace p211 := And.intro (p211.1.resolve_right (fun q => by (first | decide +kernel | with_reducible assumption | omega))) p211.2
          refine N_iast sk_119 z208E (by (first | decide +kernel | with_reducible assumption | omega)) d_Mod_readDebt_86 (fun h222 eh222 => ?_)
          have hI223 : Inv h222 := inv_full hI212 eh222 (st_b (by (first | decide +kernel | with_reducible assumption | omega)))
          have f224 : fr S_Mod_readDebtX h h222 := fr_put f213 eh222 rfl
          refine V_aload_n 0 d_Mod_readDebt_87 rfl rfl ?_
          refine V_getR fa_Mod_17 sk_116 rfl d_Mod_readDebt_88 ?_
          refine V_bipush 86 d_Mod_readDebt_91 (by decide) ?_
          refine V_dup2 d_Mod_readDebt_93 rfl rfl ?_
          refine N_ialdK sk_119 tc_86 (by (first | decide +kernel | with_reducible assumption | omega)) d_Mod_readDebt_94 (kn_nei eh222 (kn_call fh210 (kn_nei eh205 (kn_call fh192 (kn_call fh185 (kn_call fh130 (kn_nei eh125 (kn_call fh8 mK rfl) (by (first | decide +kernel | with_reducible assumption | omega))) rfl) rfl) rfl) (by (first | decide +kernel | with_reducible assumption | omega))) rfl) (by (first | decide +kernel | with_reducible assumption | omega))) ?_
          refine V_iconst 1 d_Mod_readDebt_95 (by decide) ?_
          refine V_iadd mE tc_1 (by (first | decide +kernel | with_reducible assumption | omega)) d_Mod_readDebt_96 (fun z226 z226e z226E => ?_)
          refine N_iast sk_119 tc_86 (by (first | decide +kernel | with_reducible assumption | omega)) d_Mod_readDebt_97 (fun h227 eh227 => ?_)
          have hI228 : Inv h227 := inv_put (lo := 0) (hi := 8) hI223 eh227 rfl z226E (by (first | decide +kernel | with_reducible assumption | omega))
          have f229 : fr S_Mod_readDebtX h h227 := fr_put f224 eh227 rfl
          exact V_vret rfl d_Mod_readDebt_98 ⟨rfl, ⟨hI228, f229, o214, o214Z, o214E, (kn_ne eh227 (kn_ne eh222 o214K (by decide)) (by decide)), o215, o215Z, o215E, (kn_ne eh227 (kn_ne eh222 o215K (by decide)) (by decide)), o216, o216Z, o216E, (kn_ne eh227 (kn_ne eh222 o216K (by decide)) (by decide)), o217, o217Z, o217E, (kn_ne eh227 (kn_ne eh222 o217K (by decide)) (by decide)), o218, o218Z, o218E, (kn_ne eh227 (kn_ne eh222 o218K (by decide)) (by decide)), o219, o219Z, o219E, (kn_ne eh227 (kn_ne eh222 o219K (by decide)) (by decide)), ⟨Or.inl ⟨by (first | decide +kernel | with_reducible assumption | omega), (show x_l9 b T p0 = (x_ce (x_vl b (x_en b p0)) (x_vl b p0), x_fr b (x_en b p0)) from by unfold x_l9; rw [x_sq_n (c := x_cN b p0 0 3) (by (first | decide +kernel | with_reducible assumption | omega)), x_sq_n (c := x_cN b (x_en b p0) 0 3) (by (first | decide +kernel | with_reducible assumption | omega)), x_sq_y (c := x_ce (x_vl b (x_en b p0)) (x_vl b p0)) (by (first | decide +kernel | with_reducible assumption | omega))]).trans (pq (by (first | decide +kernel | with_reducible assumption | omega)) (by (first | decide +kernel | with_reducible assumption | omega)))⟩, by (first | decide +kernel | with_reducible assumption | omega), by (first | decide +kernel | with_reducible assumption | omega), by (first | decide +kernel | with_reducible assumption | omega)⟩⟩⟩
        ·
          refine V_iconst 1 d_Mod_readDebt_50 (by decide) ?_
          refine V_goto 55 d_Mod_readDebt_51 (by decide) ?_
          refine V_iconst 4 d_Mod_readDebt_55 (by decide) ?_
          refine N_callVV [.int 1, .int 4] [] cv_Mod_144 sk_116 rfl d_Mod_readDebt_56 rfl (Nat.le_of_ble_eq_true rfl) (by decide) (by decide) (c_Mod_needsX h130 hI132 1 1 tc_1 4 4 tc_4 o13 o13Z o13E (kn_call fh130 (kn_ne eh125 o13K (by decide)) rfl) o134 o134Z o134E o134K o135 o135Z o135E o135K) (fun h231 p232 => ?_)
          obtain ⟨hI233, fh231, o235, o235Z, o235E, o235K, o236, o236Z, o236E, o236K, p232⟩ := p232
          have f234 : fr S_Mod_readDebtX h h231 := fr_call f133 fh231 rfl
          have R237 : RM h231 T (x_up D (87 + 3 * D 86) (x_vl b p0)) := RM_fr fh231 rfl R136
          have g238 : x_fr b o12Z = x_fr b (x_en b (x_en b p0)) := congrArg (x_fr b) (by (first | decide +kernel | with_reducible assumption | omega))
          have g239 : x_kd b o12Z = x_kd b (x_en b (x_en b p0)) := congrArg (x_kd b) (by (first | decide +kernel | with_reducible assumption | omega))
          have g240 : x_en b o12Z = x_en b (x_en b (x_en b p0)) := congrArg (x_en b) (by (first | decide +kernel | with_reducible assumption | omega))
          have g241 : x_vl b o12Z = x_vl b (x_en b (x_en b p0)) := congrArg (x_vl b) (by (first | decide +kernel | with_reducible assumption | omega))
          refine V_aload_n 0 d_Mod_readDebt_59 rfl rfl ?_
          refine N_callVV [] [] cv_Mod_152 sk_116 rfl d_Mod_readDebt_60 rfl (Nat.le_of_ble_eq_true rfl) (by decide) (by decide) (c_Mod_nextX h231 b hI233 s sZ sE (kn_call fh231 (kn_call fh130 (kn_ne eh125 (kn_call fh8 sK rfl) (by decide)) rfl) rfl) o12 o12Z o12E (kn_call fh231 (kn_call fh130 (kn_ne eh125 o12K (by decide)) rfl) rfl) o13 o13Z o13E (kn_call fh231 (kn_call fh130 (kn_ne eh125 o13K (by decide)) rfl) rfl) o14 o14Z o14E (kn_call fh231 (kn_call fh130 (kn_ne eh125 o14K (by decide)) rfl) rfl) o15 o15Z o15E (kn_call fh231 (kn_call fh130 (kn_ne eh125 o15K (by decide)) rfl) rfl) o235 o235Z o235E o235K o236 o236Z o236E o236K (TP_fr f234 (fun _ => rfl) hy0) (by (first | decide +kernel | with_reducible assumption | omega))) (fun h243 p244 => ?_)
          obtain ⟨hI245, fh243, o247, o247Z, o247E, o247K, o248, o248Z, o248E, o248K, o249, o249Z, o249E, o249K, o250, o250Z, o250E, o250K, o251, o251Z, o251E, o251K, o252, o252Z, o252E, o252K, p244⟩ := p244
          have f246 : fr S_Mod_readDebtX h h243 := fr_call f234 fh243 rfl
          have R253 : RM h243 T (x_up D (87 + 3 * D 86) (x_vl b p0)) := RM_fr fh243 rfl R237
          have g254 : 0 ≤ o247Z ∧ o247Z ≤ 160 := inv_at hI245 o247E o247K.symm rfl
          have g255 : 0 ≤ o248Z ∧ o248Z ≤ 160 := inv_at hI245 o248E o248K.symm rfl
          rcases (dj2 _ : o251Z ≠ 0 ∨ o251Z = 0) with c256 | c256
          ·
            replace p244 := p244.resolve_left (fun q => absurd (by (first | decide +kernel | with_reducible assumption | omega)) q.1)
            have g257 := x_cN_4 (b := b) (p := (x_en b (x_en b p0))) 1 99 (by (first | decide +kernel | with_reducible assumption | omega))
            refine V_aload_n 0 d_Mod_readDebt_63 rfl rfl ?_
            refine V_getR fa_Mod_17 sk_116 rfl d_Mod_readDebt_64 ?_
            refine V_iload_n 1 d_Mod_readDebt_67 rfl rfl ?_
            refine V_iconst 1 d_Mod_readDebt_68 (by decide) ?_
            refine V_iadd z6E tc_1 (by (first | decide +kernel | with_reducible assumption | omega)) d_Mod_readDebt_69 (fun z258 z258e z258E => ?_)
            refine V_iload_n 2 d_Mod_readDebt_70 rfl rfl ?_
            refine N_iast sk_119 z258E (by (first | decide +kernel | with_reducible assumption | omega)) d_Mod_readDebt_71 (fun h259 eh259 => ?_)
            have hI260 : Inv h259 := inv_put hI245 eh259 (st_a (by (first | decide +kernel | with_reducible assumption | omega))) z129E (by (first | decide +kernel | with_reducible assumption | omega))
            have f261 : fr S_Mod_readDebtX h h259 := fr_put f246 eh259 rfl
            refine V_aload_n 0 d_Mod_readDebt_72 rfl rfl ?_
            refine V_getR fa_Mod_17 sk_116 rfl d_Mod_readDebt_73 ?_
            refine V_iload_n 1 d_Mod_readDebt_76 rfl rfl ?_
            refine V_iconst 2 d_Mod_readDebt_77 (by decide) ?_
            refine V_iadd z6E tc_2 (by (first | decide +kernel | with_reducible assumption | omega)) d_Mod_readDebt_78 (fun z262 z262e z262E => ?_)
            refine V_aload_n 0 d_Mod_readDebt_79 rfl rfl ?_
            refine V_iconst 1 d_Mod_readDebt_80 (by decide) ?_
            refine V_bipush 99 d_Mod_readDebt_81 (by decide) ?_
            refine N_callVI [.int 1, .int 99] [.int z262, .ref 119] cv_Mod_158 sk_116 rfl d_Mod_readDebt_83 rfl (Nat.le_of_ble_eq_true rfl) (by decide) (by decide) (c_Mod_readNumberX h259 b (x_en b (x_en b p0)) hI260 1 1 tc_1 99 99 tc_99 s sZ sE (kn_ne eh259 (kn_call fh243 (kn_call fh231 (kn_call fh130 (kn_ne eh125 (kn_call fh8 sK rfl) (by decide)) rfl) rfl) rfl) (by decide)) o247 o247Z o247E (kn_ne eh259 o247K (by decide)) o248 o248Z o248E (kn_ne eh259 o248K (by decide)) o249 o249Z o249E (kn_ne eh259 o249K (by decide)) o250 o250Z o250E (kn_ne eh259 o250K (by decide)) o251 o251Z o251E (kn_ne eh259 o251K (by decide)) o252 o252Z o252E (kn_ne eh259 o252K (by decide)) (TP_fr f261 (fun _ => rfl) hy0) (by (first | decide +kernel | with_reducible assumption | omega)) (Or.inl (by (first | decide +kernel | with_reducible assumption | omega)))) (fun z263 h264 z263Z z263E p265 => ?_)
            obtain ⟨hI266, fh264, o268, o268Z, o268E, o268K, o269, o269Z, o269E, o269K, o270, o270Z, o270E, o270K, o271, o271Z, o271E, o271K, o272, o272Z, o272E, o272K, o273, o273Z, o273E, o273K, p265⟩ := p265
            have f267 : fr S_Mod_readDebtX h h264 := fr_call f261 fh264 rfl
            have g274 : 0 ≤ o268Z ∧ o268Z ≤ 160 := inv_at hI266 o268E o268K.symm rfl
            have g275 : 0 ≤ o269Z ∧ o269Z ≤ 160 := inv_at hI266 o269E o269K.symm rfl
            replace p265 := And.intro (p265.1.resolve_right (fun q => by (first | decide +kernel | with_reducible assumption | omega))) p265.2
            refine N_iast sk_119 z262E (by (first | decide +kernel | with_reducible assumption | omega)) d_Mod_readDebt_86 (fun h276 eh276 => ?_)
            have hI277 : Inv h276 := inv_full hI266 eh276 (st_b (by (first | decide +kernel | with_reducible assumption | omega)))
            have f278 : fr S_Mod_readDebtX h h276 := fr_put f267 eh276 rfl
            refine V_aload_n 0 d_Mod_readDebt_87 rfl rfl ?_
            refine V_getR fa_Mod_17 sk_116 rfl d_Mod_readDebt_88 ?_
            refine V_bipush 86 d_Mod_readDebt_91 (by decide) ?_
            refine V_dup2 d_Mod_readDebt_93 rfl rfl ?_
            refine N_ialdK sk_119 tc_86 (by (first | decide +kernel | with_reducible assumption | omega)) d_Mod_readDebt_94 (kn_nei eh276 (kn_call fh264 (kn_nei eh259 (kn_call fh243 (kn_call fh231 (kn_call fh130 (kn_nei eh125 (kn_call fh8 mK rfl) (by (first | decide +kernel | with_reducible assumption | omega))) rfl) rfl) rfl) (by (first | decide +kernel | with_reducible assumption | omega))) rfl) (by (first | decide +kernel | with_reducible assumption | omega))) ?_
            refine V_iconst 1 d_Mod_readDebt_95 (by decide) ?_
            refine V_iadd mE tc_1 (by (first | decide +kernel | with_reducible assumption | omega)) d_Mod_readDebt_96 (fun z280 z280e z280E => ?_)
            refine N_iast sk_119 tc_86 (by (first | decide +kernel | with_reducible assumption | omega)) d_Mod_readDebt_97 (fun h281 eh281 => ?_)
            have hI282 : Inv h281 := inv_put (lo := 0) (hi := 8) hI277 eh281 rfl z280E (by (first | decide +kernel | with_reducible assumption | omega))
            have f283 : fr S_Mod_readDebtX h h281 := fr_put f278 eh281 rfl
            exact V_vret rfl d_Mod_readDebt_98 ⟨rfl, ⟨hI282, f283, o268, o268Z, o268E, (kn_ne eh281 (kn_ne eh276 o268K (by decide)) (by decide)), o269, o269Z, o269E, (kn_ne eh281 (kn_ne eh276 o269K (by decide)) (by decide)), o270, o270Z, o270E, (kn_ne eh281 (kn_ne eh276 o270K (by decide)) (by decide)), o271, o271Z, o271E, (kn_ne eh281 (kn_ne eh276 o271K (by decide)) (by decide)), o272, o272Z, o272E, (kn_ne eh281 (kn_ne eh276 o272K (by decide)) (by decide)), o273, o273Z, o273E, (kn_ne eh281 (kn_ne eh276 o273K (by decide)) (by decide)), ⟨Or.inl ⟨by (first | decide +kernel | with_reducible assumption | omega), (show x_l9 b T p0 = (x_cN b (x_en b (x_en b p0)) 1 99, x_fr b (x_en b (x_en b p0))) from by unfold x_l9; rw [x_sq_n (c := x_cN b p0 0 3) (by (first | decide +kernel | with_reducible assumption | omega)), x_sq_n (c := x_cN b (x_en b p0) 0 3) (by (first | decide +kernel | with_reducible assumption | omega)), x_sq_n (c := x_ce (x_vl b (x_en b p0)) (x_vl b p0)) (by (first | decide +kernel | with_reducible assumption | omega)), x_sq_y (c := x_cN b (x_en b (x_en b p0)) 1 99) (by (first | decide +kernel | with_reducible assumption | omega))]).trans (pq (by (first | decide +kernel | with_reducible assumption | omega)) (by (first | decide +kernel | with_reducible assumption | omega)))⟩, by (first | decide +kernel | with_reducible assumption | omega), by (first | decide +kernel | with_reducible assumption | omega), by (first | decide +kernel | with_reducible assumption | omega)⟩⟩⟩
          ·
            replace p244 := p244.resolve_left (fun q => absurd (by (first | decide +kernel | with_reducible assumption | omega)) q.1)
            refine V_aload_n 0 d_Mod_readDebt_63 rfl rfl ?_
            refine V_getR fa_Mod_17 sk_116 rfl d_Mod_readDebt_64 ?_
            refine V_iload_n 1 d_Mod_readDebt_67 rfl rfl ?_
            refine V_iconst 1 d_Mod_readDebt_68 (by decide) ?_
            refine V_iadd z6E tc_1 (by (first | decide +kernel | with_reducible assumption | omega)) d_Mod_readDebt_69 (fun z284 z284e z284E => ?_)
            refine V_iload_n 2 d_Mod_readDebt_70 rfl rfl ?_
            refine N_iast sk_119 z284E (by (first | decide +kernel | with_reducible assumption | omega)) d_Mod_readDebt_71 (fun h285 eh285 => ?_)
            have hI286 : Inv h285 := inv_put hI245 eh285 (st_a (by (first | decide +kernel | with_reducible assumption | omega))) z129E (by (first | decide +kernel | with_reducible assumption | omega))
            have f287 : fr S_Mod_readDebtX h h285 := fr_put f246 eh285 rfl
            have R288 : RM h285 T (x_up (x_up D (87 + 3 * D 86) (x_vl b p0)) (88 + 3 * D 86) (x_vl b (x_en b p0))) := RM_put R253 eh285 (Or.inl ⟨rfl, by (first | decide +kernel | with_reducible assumption | omega), rfl⟩) (z129E.trans (by (first | decide +kernel | with_reducible assumption | omega))) (by (first | decide +kernel | with_reducible assumption | omega))
            refine V_aload_n 0 d_Mod_readDebt_72 rfl rfl ?_
            refine V_getR fa_Mod_17 sk_116 rfl d_Mod_readDebt_73 ?_
            refine V_iload_n 1 d_Mod_readDebt_76 rfl rfl ?_
            refine V_iconst 2 d_Mod_readDebt_77 (by decide) ?_
            refine V_iadd z6E tc_2 (by (first | decide +kernel | with_reducible assumption | omega)) d_Mod_readDebt_78 (fun z289 z289e z289E => ?_)
            refine V_aload_n 0 d_Mod_readDebt_79 rfl rfl ?_
            refine V_iconst 1 d_Mod_readDebt_80 (by decide) ?_
            refine V_bipush 99 d_Mod_readDebt_81 (by decide) ?_
            refine N_callVI [.int 1, .int 99] [.int z289, .ref 119] cv_Mod_158 sk_116 rfl d_Mod_readDebt_83 rfl (Nat.le_of_ble_eq_true rfl) (by decide) (by decide) (c_Mod_readNumberX h285 b (x_en b (x_en b p0)) hI286 1 1 tc_1 99 99 tc_99 s sZ sE (kn_ne eh285 (kn_call fh243 (kn_call fh231 (kn_call fh130 (kn_ne eh125 (kn_call fh8 sK rfl) (by decide)) rfl) rfl) rfl) (by decide)) o247 o247Z o247E (kn_ne eh285 o247K (by decide)) o248 o248Z o248E (kn_ne eh285 o248K (by decide)) o249 o249Z o249E (kn_ne eh285 o249K (by decide)) o250 o250Z o250E (kn_ne eh285 o250K (by decide)) o251 o251Z o251E (kn_ne eh285 o251K (by decide)) o252 o252Z o252E (kn_ne eh285 o252K (by decide)) (TP_fr f287 (fun _ => rfl) hy0) (by (first | decide +kernel | with_reducible assumption | omega)) (Or.inr ⟨by (first | decide +kernel | with_reducible assumption | omega), by (first | decide +kernel | with_reducible assumption | omega), by (first | decide +kernel | with_reducible assumption | omega), by (first | decide +kernel | with_reducible assumption | omega), by (first | decide +kernel | with_reducible assumption | omega), by (first | decide +kernel | with_reducible assumption | omega), by (first | decide +kernel | with_reducible assumption | omega), by (first | decide +kernel | with_reducible assumption | omega), by (first | decide +kernel | with_reducible assumption | omega), by (first | decide +kernel | with_reducible assumption | omega), by (first | decide +kernel | with_reducible assumption | omega)⟩)) (fun z290 h291 z290Z z290E p292 => ?_)
            obtain ⟨hI293, fh291, o295, o295Z, o295E, o295K, o296, o296Z, o296E, o296K, o297, o297Z, o297E, o297K, o298, o298Z, o298E, o298K, o299, o299Z, o299E, o299K, o300, o300Z, o300E, o300K, p292⟩ := p292
            have f294 : fr S_Mod_readDebtX h h291 := fr_call f287 fh291 rfl
            have R301 : RM h291 T (x_up (x_up D (87 + 3 * D 86) (x_vl b p0)) (88 + 3 * D 86) (x_vl b (x_en b p0))) := RM_fr fh291 rfl R288
            have g302 : 0 ≤ o295Z ∧ o295Z ≤ 160 := inv_at hI293 o295E o295K.symm rfl
            have g303 : 0 ≤ o296Z ∧ o296Z ≤ 160 := inv_at hI293 o296E o296K.symm rfl
            rcases (dj3 _ _ : o299Z ≠ 0 ∧ x_cN b (x_en b (x_en b p0)) 1 99 ≠ 0 ∨ o299Z ≠ 0 ∧ x_cN b (x_en b (x_en b p0)) 1 99 = 0 ∨ o299Z = 0) with c304 | c304 | c304
            ·
              replace p292 := And.intro ((p292.1.resolve_left (fun q => by (first | decide +kernel | with_reducible assumption | omega))).resolve_right (fun q => by (first | decide +kernel | with_reducible assumption | omega))) p292.2
              refine N_iast sk_119 z289E (by (first | decide +kernel | with_reducible assumption | omega)) d_Mod_readDebt_86 (fun h305 eh305 => ?_)
              have hI306 : Inv h305 := inv_full hI293 eh305 (st_b (by (first | decide +kernel | with_reducible assumption | omega)))
              have f307 : fr S_Mod_readDebtX h h305 := fr_put f294 eh305 rfl
              refine V_aload_n 0 d_Mod_readDebt_87 rfl rfl ?_
              refine V_getR fa_Mod_17 sk_116 rfl d_Mod_readDebt_88 ?_
              refine V_bipush 86 d_Mod_readDebt_91 (by decide) ?_
              refine V_dup2 d_Mod_readDebt_93 rfl rfl ?_
              refine N_ialdK sk_119 tc_86 (by (first | decide +kernel | with_reducible assumption | omega)) d_Mod_readDebt_94 (kn_nei eh305 (kn_call fh291 (kn_nei eh285 (kn_call fh243 (kn_call fh231 (kn_call fh130 (kn_nei eh125 (kn_call fh8 mK rfl) (by (first | decide +kernel | with_reducible assumption | omega))) rfl) rfl) rfl) (by (first | decide +kernel | with_reducible assumption | omega))) rfl) (by (first | decide +kernel | with_reducible assumption | omega))) ?_
              refine V_iconst 1 d_Mod_readDebt_95 (by decide) ?_
              refine V_iadd mE tc_1 (by (first | decide +kernel | with_reducible assumption | omega)) d_Mod_readDebt_96 (fun z309 z309e z309E => ?_)
              refine N_iast sk_119 tc_86 (by (first | decide +kernel | with_reducible assumption | omega)) d_Mod_readDebt_97 (fun h310 eh310 => ?_)
              have hI311 : Inv h310 := inv_put (lo := 0) (hi := 8) hI306 eh310 rfl z309E (by (first | decide +kernel | with_reducible assumption | omega))
              have f312 : fr S_Mod_readDebtX h h310 := fr_put f307 eh310 rfl
              exact V_vret rfl d_Mod_readDebt_98 ⟨rfl, ⟨hI311, f312, o295, o295Z, o295E, (kn_ne eh310 (kn_ne eh305 o295K (by decide)) (by decide)), o296, o296Z, o296E, (kn_ne eh310 (kn_ne eh305 o296K (by decide)) (by decide)), o297, o297Z, o297E, (kn_ne eh310 (kn_ne eh305 o297K (by decide)) (by decide)), o298, o298Z, o298E, (kn_ne eh310 (kn_ne eh305 o298K (by decide)) (by decide)), o299, o299Z, o299E, (kn_ne eh310 (kn_ne eh305 o299K (by decide)) (by decide)), o300, o300Z, o300E, (kn_ne eh310 (kn_ne eh305 o300K (by decide)) (by decide)), ⟨Or.inl ⟨by (first | decide +kernel | with_reducible assumption | omega), (show x_l9 b T p0 = (x_cN b (x_en b (x_en b p0)) 1 99, x_fr b (x_en b (x_en b p0))) from by unfold x_l9; rw [x_sq_n (c := x_cN b p0 0 3) (by (first | decide +kernel | with_reducible assumption | omega)), x_sq_n (c := x_cN b (x_en b p0) 0 3) (by (first | decide +kernel | with_reducible assumption | omega)), x_sq_n (c := x_ce (x_vl b (x_en b p0)) (x_vl b p0)) (by (first | decide +kernel | with_reducible assumption | omega)), x_sq_y (c := x_cN b (x_en b (x_en b p0)) 1 99) (by (first | decide +kernel | with_reducible assumption | omega))]).trans (pq (by (first | decide +kernel | with_reducible assumption | omega)) (by (first | decide +kernel | with_reducible assumption | omega)))⟩, by (first | decide +kernel | with_reducible assumption | omega), by (first | decide +kernel | with_reducible assumption | omega), by (first | decide +kernel | with_reducible assumption | omega)⟩⟩⟩
            ·
              replace p292 := And.intro ((p292.1.resolve_left (fun q => by (first | decide +kernel | with_reducible assumption | omega))).resolve_left (fun q => by (first | decide +kernel | with_reducible assumption | omega))).2.1 (And.intro ((p292.1.resolve_left (fun q => by (first | decide +kernel | with_reducible assumption | omega))).resolve_left (fun q => by (first | decide +kernel | with_reducible assumption | omega))).2.2.1 (And.intro (((p292.1.resolve_left (fun q => by (first | decide +kernel | with_reducible assumption | omega))).resolve_left (fun q => by (first | decide +kernel | with_reducible assumption | omega))).2.2.2.resolve_right (fun q => by (first | decide +kernel | with_reducible assumption | omega))) p292.2))
              have g313 := x_cN_0 p292.1
              have g314 := x_cS_4 (b := b) (p := (x_en b (x_en b (x_en b p0)))) (by (first | decide +kernel | with_reducible assumption | omega))
              refine N_iast sk_119 z289E (by (first | decide +kernel | with_reducible assumption | omega)) d_Mod_readDebt_86 (fun h315 eh315 => ?_)
              have hI316 : Inv h315 := inv_full hI293 eh315 (st_b (by (first | decide +kernel | with_reducible assumption | omega)))
              have f317 : fr S_Mod_readDebtX h h315 := fr_put f294 eh315 rfl
              refine V_aload_n 0 d_Mod_readDebt_87 rfl rfl ?_
              refine V_getR fa_Mod_17 sk_116 rfl d_Mod_readDebt_88 ?_
              refine V_bipush 86 d_Mod_readDebt_91 (by decide) ?_
              refine V_dup2 d_Mod_readDebt_93 rfl rfl ?_
              refine N_ialdK sk_119 tc_86 (by (first | decide +kernel | with_reducible assumption | omega)) d_Mod_readDebt_94 (kn_nei eh315 (kn_call fh291 (kn_nei eh285 (kn_call fh243 (kn_call fh231 (kn_call fh130 (kn_nei eh125 (kn_call fh8 mK rfl) (by (first | decide +kernel | with_reducible assumption | omega))) rfl) rfl) rfl) (by (first | decide +kernel | with_reducible assumption | omega))) rfl) (by (first | decide +kernel | with_reducible assumption | omega))) ?_
              refine V_iconst 1 d_Mod_readDebt_95 (by decide) ?_
              refine V_iadd mE tc_1 (by (first | decide +kernel | with_reducible assumption | omega)) d_Mod_readDebt_96 (fun z319 z319e z319E => ?_)
              refine N_iast sk_119 tc_86 (by (first | decide +kernel | with_reducible assumption | omega)) d_Mod_readDebt_97 (fun h320 eh320 => ?_)
              have hI321 : Inv h320 := inv_put (lo := 0) (hi := 8) hI316 eh320 rfl z319E (by (first | decide +kernel | with_reducible assumption | omega))
              have f322 : fr S_Mod_readDebtX h h320 := fr_put f317 eh320 rfl
              exact V_vret rfl d_Mod_readDebt_98 ⟨rfl, ⟨hI321, f322, o295, o295Z, o295E, (kn_ne eh320 (kn_ne eh315 o295K (by decide)) (by decide)), o296, o296Z, o296E, (kn_ne eh320 (kn_ne eh315 o296K (by decide)) (by decide)), o297, o297Z, o297E, (kn_ne eh320 (kn_ne eh315 o297K (by decide)) (by decide)), o298, o298Z, o298E, (kn_ne eh320 (kn_ne eh315 o298K (by decide)) (by decide)), o299, o299Z, o299E, (kn_ne eh320 (kn_ne eh315 o299K (by decide)) (by decide)), o300, o300Z, o300E, (kn_ne eh320 (kn_ne eh315 o300K (by decide)) (by decide)), ⟨Or.inl ⟨by (first | decide +kernel | with_reducible assumption | omega), (show x_l9 b T p0 = (x_cS b (x_en b (x_en b (x_en b p0))), x_fr b (x_en b (x_en b (x_en b p0)))) from by unfold x_l9; rw [x_sq_n (c := x_cN b p0 0 3) (by (first | decide +kernel | with_reducible assumption | omega)), x_sq_n (c := x_cN b (x_en b p0) 0 3) (by (first | decide +kernel | with_reducible assumption | omega)), x_sq_n (c := x_ce (x_vl b (x_en b p0)) (x_vl b p0)) (by (first | decide +kernel | with_reducible assumption | omega)), x_sq_n (c := x_cN b (x_en b (x_en b p0)) 1 99) (by (first | decide +kernel | with_reducible assumption | omega)), x_sq_y (c := x_cS b (x_en b (x_en b (x_en b p0)))) (by (first | decide +kernel | with_reducible assumption | omega))]).trans (pq (by (first | decide +kernel | with_reducible assumption | omega)) (by (first | decide +kernel | with_reducible assumption | omega)))⟩, by (first | decide +kernel | with_reducible assumption | omega), by (first | decide +kernel | with_reducible assumption | omega), by (first | decide +kernel | with_reducible assumption | omega)⟩⟩⟩
            ·
              replace p292 := And.intro ((p292.1.resolve_left (fun q => by (first | decide +kernel | with_reducible assumption | omega))).resolve_left (fun q => by (first | decide +kernel | with_reducible assumption | omega))).2.1 (And.intro ((p292.1.resolve_left (fun q => by (first | decide +kernel | with_reducible assumption | omega))).resolve_left (fun q => by (first | decide +kernel | with_reducible assumption | omega))).2.2.1 (And.intro (((p292.1.resolve_left (fun q => by (first | decide +kernel | with_reducible assumption | omega))).resolve_left (fun q => by (first | decide +kernel | with_reducible assumption | omega))).2.2.2.resolve_left (fun q => by (first | decide +kernel | with_reducible assumption | omega))) p292.2))
              have g323 := x_cN_0 p292.1
              refine N_iast sk_119 z289E (by (first | decide +kernel | with_reducible assumption | omega)) d_Mod_readDebt_86 (fun h324 eh324 => ?_)
              have hI325 : Inv h324 := inv_full hI293 eh324 (st_b (by (first | decide +kernel | with_reducible assumption | omega)))
              have f326 : fr S_Mod_readDebtX h h324 := fr_put f294 eh324 rfl
              have R327 : RM h324 T (x_up (x_up (x_up D (87 + 3 * D 86) (x_vl b p0)) (88 + 3 * D 86) (x_vl b (x_en b p0))) (89 + 3 * D 86) (x_vl b (x_en b (x_en b p0)))) := RM_put R301 eh324 (Or.inl ⟨rfl, by (first | decide +kernel | with_reducible assumption | omega), rfl⟩) (z290E.trans (by (first | decide +kernel | with_reducible assumption | omega))) (by (first | decide +kernel | with_reducible assumption | omega))
              refine V_aload_n 0 d_Mod_readDebt_87 rfl rfl ?_
              refine V_getR fa_Mod_17 sk_116 rfl d_Mod_readDebt_88 ?_
              refine V_bipush 86 d_Mod_readDebt_91 (by decide) ?_
              refine V_dup2 d_Mod_readDebt_93 rfl rfl ?_
              refine N_ialdK sk_119 tc_86 (by (first | decide +kernel | with_reducible assumption | omega)) d_Mod_readDebt_94 (kn_nei eh324 (kn_call fh291 (kn_nei eh285 (kn_call fh243 (kn_call fh231 (kn_call fh130 (kn_nei eh125 (kn_call fh8 mK rfl) (by (first | decide +kernel | with_reducible assumption | omega))) rfl) rfl) rfl) (by (first | decide +kernel | with_reducible assumption | omega))) rfl) (by (first | decide +kernel | with_reducible assumption | omega))) ?_
              refine V_iconst 1 d_Mod_readDebt_95 (by decide) ?_
              refine V_iadd mE tc_1 (by (first | decide +kernel | with_reducible assumption | omega)) d_Mod_readDebt_96 (fun z329 z329e z329E => ?_)
              refine N_iast sk_119 tc_86 (by (first | decide +kernel | with_reducible assumption | omega)) d_Mod_readDebt_97 (fun h330 eh330 => ?_)
              have hI331 : Inv h330 := inv_put (lo := 0) (hi := 8) hI325 eh330 rfl z329E (by (first | decide +kernel | with_reducible assumption | omega))
              have f332 : fr S_Mod_readDebtX h h330 := fr_put f326 eh330 rfl
              have R333 : RM h330 T (x_up (x_up (x_up (x_up D (87 + 3 * D 86) (x_vl b p0)) (88 + 3 * D 86) (x_vl b (x_en b p0))) (89 + 3 * D 86) (x_vl b (x_en b (x_en b p0)))) 86 (D 86 + 1)) := RM_put R327 eh330 (Or.inl ⟨rfl, by (first | decide +kernel | with_reducible assumption | omega), rfl⟩) (z329E.trans (by (first | decide +kernel | with_reducible assumption | omega))) (by (first | decide +kernel | with_reducible assumption | omega))
              exact V_vret rfl d_Mod_readDebt_98 ⟨rfl, ⟨hI331, f332, o295, o295Z, o295E, (kn_ne eh330 (kn_ne eh324 o295K (by decide)) (by decide)), o296, o296Z, o296E, (kn_ne eh330 (kn_ne eh324 o296K (by decide)) (by decide)), o297, o297Z, o297E, (kn_ne eh330 (kn_ne eh324 o297K (by decide)) (by decide)), o298, o298Z, o298E, (kn_ne eh330 (kn_ne eh324 o298K (by decide)) (by decide)), o299, o299Z, o299E, (kn_ne eh330 (kn_ne eh324 o299K (by decide)) (by decide)), o300, o300Z, o300E, (kn_ne eh330 (kn_ne eh324 o300K (by decide)) (by decide)), ⟨Or.inr ⟨by (first | decide +kernel | with_reducible assumption | omega), by unfold x_l9; rw [x_sq_n (c := x_cN b p0 0 3) (by (first | decide +kernel | with_reducible assumption | omega)), x_sq_n (c := x_cN b (x_en b p0) 0 3) (by (first | decide +kernel | with_reducible assumption | omega)), x_sq_n (c := x_ce (x_vl b (x_en b p0)) (x_vl b p0)) (by (first | decide +kernel | with_reducible assumption | omega)), x_sq_n (c := x_cN b (x_en b (x_en b p0)) 1 99) (by (first | decide +kernel | with_reducible assumption | omega))], p292.2.2.1.2, R333⟩, by (first | decide +kernel | with_reducible assumption | omega), by (first | decide +kernel | with_reducible assumption | omega), by (first | decide +kernel | with_reducible assumption | omega)⟩⟩⟩
end
section
def S_Mod_readLineOfX_0 : List (Nat × Option Nat) := [(116, some 16), (116, some 17), (116, some 18), (116, some 19), (116, some 20), (116, some 21), (116, some 7), (116, some 8)]
abbrev q_Mod_readLineOfX_0 (h : Hp) (b : Int → Int) (T : Nat → Int → Int) (D : Nat → Int) (p0 : Int) (s : Int32) (sZ : Int) (p : Int32) (pZ : Int) (g : Int32) (gZ : Int) (k : Int32) (kZ : Int) (v : Int32) (vZ : Int) (w : Int32) (wZ : Int) (a : Int32) (aZ : Int) : Option Value → Hp → Prop := pVd (fun h' => Inv h' ∧ fr S_Mod_readLineOfX_0 h h' ∧ ∃ (q : Int32) (qZ : Int), q.toInt = qZ ∧ h'.1 116 16 = q ∧ ∃ (f : Int32) (fZ : Int), f.toInt = fZ ∧ h'.1 116 17 = f ∧ ∃ (m : Int32) (mZ : Int), m.toInt = mZ ∧ h'.1 116 18 = m ∧ ∃ (x : Int32) (xZ : Int), x.toInt = xZ ∧ h'.1 116 19 = x ∧ ∃ (u : Int32) (uZ : Int), u.toInt = uZ ∧ h'.1 116 20 = u ∧ ∃ (y : Int32) (yZ : Int), y.toInt = yZ ∧ h'.1 116 21 = y ∧ ((uZ ≠ 0 ∧ x_l0 b T p0 = (uZ, yZ) ∨ uZ = 0 ∧ x_l0 b T p0 = x_sq (x_cS b (x_en b (x_en b p0))) (x_fr b (x_en b (x_en b p0))) (0, x_en b (x_en b (x_en b p0))) ∧ (fZ = x_fr b (x_en b (x_en b p0)) ∧ mZ = x_kd b (x_en b (x_en b p0)) ∧ mZ ≠ 4 ∧ 0 ≤ mZ ∧ mZ ≤ 3 ∧ qZ = x_en b (x_en b (x_en b p0)) ∧ (mZ ≠ 2 ∨ xZ = x_vl b (x_en b (x_en b p0)) ∧ 0 ≤ xZ ∧ xZ ≤ 99) ∧ (x_en b (x_en b p0)) ≤ fZ ∧ fZ ≤ qZ ∧ qZ ≤ sZ ∧ (mZ = 0 ∨ fZ < qZ)) ∧ RM h' T (x_up (x_up D 144 (x_vl b p0)) 145 (x_vl b (x_en b p0)))) ∧ 0 ≤ qZ ∧ qZ ≤ sZ ∧ 0 ≤ uZ))
set_option maxRecDepth 100000 in
theorem c_Mod_readLineOfX_0 (h : Hp) (b : Int → Int) (T : Nat → Int → Int) (D : Nat → Int) (p0 : Int) (hI : Inv h) (s : Int32) (sZ : Int) (sE : s.toInt = sZ) (sK : h.1 116 15 = s) (p : Int32) (pZ : Int) (pE : p.toInt = pZ) (pK : h.1 116 16 = p) (g : Int32) (gZ : Int) (gE : g.toInt = gZ) (gK : h.1 116 17 = g) (k : Int32) (kZ : Int) (kE : k.toInt = kZ) (kK : h.1 116 18 = k) (v : Int32) (vZ : Int) (vE : v.toInt = vZ) (vK : h.1 116 19 = v) (w : Int32) (wZ : Int) (wE : w.toInt = wZ) (wK : h.1 116 20 = w) (a : Int32) (aZ : Int) (aE : a.toInt = aZ) (aK : h.1 116 21 = a) (hy0 : TP h 121 sZ b) (hy1 : 0 ≤ pZ ∧ pZ ≤ sZ ∧ wZ = 0) (hy2 : gZ = x_fr b p0 ∧ kZ = x_kd b p0 ∧ kZ ≠ 4 ∧ 0 ≤ kZ ∧ kZ ≤ 3 ∧ pZ = x_en b p0 ∧ (kZ ≠ 2 ∨ vZ = x_vl b p0 ∧ 0 ≤ vZ ∧ vZ ≤ 99) ∧ p0 ≤ gZ ∧ gZ ≤ pZ ∧ pZ ≤ sZ ∧ (kZ = 0 ∨ gZ < pZ)) (hy3 : RM h T D) : Ct y_Mod_readLineOf b_Mod_readLineOf 3 none 3 70 [.ref 116, .int 0] h (q_Mod_readLineOfX_0 h b T D p0 s sZ p pZ g gZ k kZ v vZ w wZ a aZ) := by
  refine ct_ow R_Mod [some (.ref 116), some (.int 0), none] rfl (by decide) rfl (Nat.le_of_ble_eq_true rfl) ?_
  have f0 : fr S_Mod_readLineOfX_0 h h := fr_rf
  have g1 : 0 ≤ sZ ∧ sZ ≤ 160 := inv_at hI sE sK.symm rfl
  have g2 : 0 ≤ pZ ∧ pZ ≤ 160 := inv_at hI pE pK.symm rfl
  have g3 : 0 ≤ gZ ∧ gZ ≤ 160 := inv_at hI gE gK.symm rfl
  refine V_iload_n 1 d_Mod_readLineOf_0 rfl rfl ?_
  refine V_tabIn 56 tc_0 d_Mod_readLineOf_1 (by decide) (by decide) rfl (by decide) ?_
  refine V_aload_n 0 d_Mod_readLineOf_56 rfl rfl ?_
  refine V_aload_n 0 d_Mod_readLineOf_57 rfl rfl ?_
  refine V_iconst 2 d_Mod_readLineOf_58 (by decide) ?_
  refine V_iconst 4 d_Mod_readLineOf_59 (by decide) ?_
  refine N_callVI [.int 2, .int 4] [.ref 116] cv_Mod_158 sk_116 rfl d_Mod_readLineOf_60 rfl (Nat.le_of_ble_eq_true rfl) (by decide) (by decide) (c_Mod_readNumberX h b p0 hI 2 2 tc_2 4 4 tc_4 s sZ sE sK p pZ pE pK g gZ gE gK k kZ kE kK v vZ vE vK w wZ wE wK a aZ aE aK (TP_fr f0 (fun _ => rfl) hy0) (by (first | decide +kernel | with_reducible assumption | omega)) (Or.inr ⟨by (first | decide +kernel | with_reducible assumption | omega), by (first | decide +kernel | with_reducible assumption | omega), by (first | decide +kernel | with_reducible assumption | omega), by (first | decide +kernel | with_reducible assumption | omega), by (first | decide +kernel | with_reducible assumption | omega), by (first | decide +kernel | with_reducible assumption | omega), by (first | decide +kernel | with_reducible assumption | omega), by (first | decide +kernel | with_reducible assumption | omega), by (first | decide +kernel | with_reducible assumption | omega), by (first | decide +kernel | with_reducible assumption | omega), by (first | decide +kernel | with_reducible assumption | omega)⟩)) (fun z4 h5 z4Z z4E p6 => ?_)
  obtain ⟨hI7, fh5, o9, o9Z, o9E, o9K, o10, o10Z, o10E, o10K, o11, o11Z, o11E, o11K, o12, o12Z, o12E, o12K, o13, o13Z, o13E, o13K, o14, o14Z, o14E, o14K, p6⟩ := p6
  have f8 : fr S_Mod_readLineOfX_0 h h5 := fr_call f0 fh5 rfl
  have R15 : RM h5 T D := RM_fr fh5 rfl hy3
  have g16 : 0 ≤ o9Z ∧ o9Z ≤ 160 := inv_at hI7 o9E o9K.symm rfl
  have g17 : 0 ≤ o10Z ∧ o10Z ≤ 160 := inv_at hI7 o10E o10K.symm rfl
  rcases (dj3 _ _ : o13Z ≠ 0 ∧ x_cN b p0 2 4 ≠ 0 ∨ o13Z ≠ 0 ∧ x_cN b p0 2 4 = 0 ∨ o13Z = 0) with c18 | c18 | c18
  ·
    replace p6 := And.intro ((p6.1.resolve_left (fun q => by (first | decide +kernel | with_reducible assumption | omega))).resolve_right (fun q => by (first | decide +kernel | with_reducible assumption | omega))) p6.2
    refine N_putI fp_Mod_62 sk_116 rfl d_Mod_readLineOf_63 (fun h19 eh19 => ?_)
    have hI20 : Inv h19 := inv_put (lo := 0) (hi := 4) hI7 eh19 rfl z4E (by (first | decide +kernel | with_reducible assumption | omega))
    have f21 : fr S_Mod_readLineOfX_0 h h19 := fr_put f8 eh19 rfl
    refine V_aload_n 0 d_Mod_readLineOf_66 rfl rfl ?_
    refine V_aload_n 0 d_Mod_readLineOf_67 rfl rfl ?_
    refine V_iconst 2 d_Mod_readLineOf_68 (by decide) ?_
    refine V_iconst 4 d_Mod_readLineOf_69 (by decide) ?_
    refine N_callVI [.int 2, .int 4] [.ref 116] cv_Mod_158 sk_116 rfl d_Mod_readLineOf_70 rfl (Nat.le_of_ble_eq_true rfl) (by decide) (by decide) (c_Mod_readNumberX h19 b (x_en b p0) hI20 2 2 tc_2 4 4 tc_4 s sZ sE (kn_nei eh19 (kn_call fh5 sK rfl) (by decide)) o9 o9Z o9E (kn_nei eh19 o9K (by decide)) o10 o10Z o10E (kn_nei eh19 o10K (by decide)) o11 o11Z o11E (kn_nei eh19 o11K (by decide)) o12 o12Z o12E (kn_nei eh19 o12K (by decide)) o13 o13Z o13E (kn_nei eh19 o13K (by decide)) o14 o14Z o14E (kn_nei eh19 o14K (by decide)) (TP_fr f21 (fun _ => rfl) hy0) (by (first | decide +kernel | with_reducible assumption | omega)) (Or.inl (by (first | decide +kernel | with_reducible assumption | omega)))) (fun z22 h23 z22Z z22E p24 => ?_)
    obtain ⟨hI25, fh23, o27, o27Z, o27E, o27K, o28, o28Z, o28E, o28K, o29, o29Z, o29E, o29K, o30, o30Z, o30E, o30K, o31, o31Z, o31E, o31K, o32, o32Z, o32E, o32K, p24⟩ := p24
    have f26 : fr S_Mod_readLineOfX_0 h h23 := fr_call f21 fh23 rfl
    have g33 : 0 ≤ o27Z ∧ o27Z ≤ 160 := inv_at hI25 o27E o27K.symm rfl
    have g34 : 0 ≤ o28Z ∧ o28Z ≤ 160 := inv_at hI25 o28E o28K.symm rfl
    replace p24 := And.intro (p24.1.resolve_right (fun q => by (first | decide +kernel | with_reducible assumption | omega))) p24.2
    refine N_putI fp_Mod_66 sk_116 rfl d_Mod_readLineOf_73 (fun h35 eh35 => ?_)
    have hI36 : Inv h35 := inv_put (lo := 0) (hi := 4) hI25 eh35 rfl z22E (by (first | decide +kernel | with_reducible assumption | omega))
    have f37 : fr S_Mod_readLineOfX_0 h h35 := fr_put f26 eh35 rfl
    refine V_goto 152 d_Mod_readLineOf_76 (by decide) ?_
    exact V_vret rfl d_Mod_readLineOf_152 ⟨rfl, ⟨hI36, f37, o27, o27Z, o27E, (kn_nei eh35 o27K (by decide)), o28, o28Z, o28E, (kn_nei eh35 o28K (by decide)), o29, o29Z, o29E, (kn_nei eh35 o29K (by decide)), o30, o30Z, o30E, (kn_nei eh35 o30K (by decide)), o31, o31Z, o31E, (kn_nei eh35 o31K (by decide)), o32, o32Z, o32E, (kn_nei eh35 o32K (by decide)), ⟨Or.inl ⟨by (first | decide +kernel | with_reducible assumption | omega), (show x_l0 b T p0 = (x_cN b p0 2 4, x_fr b p0) from by unfold x_l0; rw [x_sq_y (c := x_cN b p0 2 4) (by (first | decide +kernel | with_reducible assumption | omega))]).trans (pq (by (first | decide +kernel | with_reducible assumption | omega)) (by (first | decide +kernel | with_reducible assumption | omega)))⟩, by (first | decide +kernel | with_reducible assumption | omega), by (first | decide +kernel | with_reducible assumption | omega), by (first | decide +kernel | with_reducible assumption | omega)⟩⟩⟩
  ·
    replace p6 := And.intro ((p6.1.resolve_left (fun q => by (first | decide +kernel | with_reducible assumption | omega))).resolve_left (fun q => by (first | decide +kernel | with_reducible assumption | omega))).2.1 (And.intro ((p6.1.resolve_left (fun q => by (first | decide +kernel | with_reducible assumption | omega))).resolve_left (fun q => by (first | decide +kernel | with_reducible assumption | omega))).2.2.1 (And.intro (((p6.1.resolve_left (fun q => by (first | decide +kernel | with_reducible assumption | omega))).resolve_left (fun q => by (first | decide +kernel | with_reducible assumption | omega))).2.2.2.resolve_right (fun q => by (first | decide +kernel | with_reducible assumption | omega))) p6.2))
    have g38 := x_cN_0 p6.1
    have g39 := x_cN_4 (b := b) (p := (x_en b p0)) 2 4 (by (first | decide +kernel | with_reducible assumption | omega))
    refine N_putI fp_Mod_62 sk_116 rfl d_Mod_readLineOf_63 (fun h40 eh40 => ?_)
    have hI41 : Inv h40 := inv_put (lo := 0) (hi := 4) hI7 eh40 rfl z4E (by (first | decide +kernel | with_reducible assumption | omega))
    have f42 : fr S_Mod_readLineOfX_0 h h40 := fr_put f8 eh40 rfl
    refine V_aload_n 0 d_Mod_readLineOf_66 rfl rfl ?_
    refine V_aload_n 0 d_Mod_readLineOf_67 rfl rfl ?_
    refine V_iconst 2 d_Mod_readLineOf_68 (by decide) ?_
    refine V_iconst 4 d_Mod_readLineOf_69 (by decide) ?_
    refine N_callVI [.int 2, .int 4] [.ref 116] cv_Mod_158 sk_116 rfl d_Mod_readLineOf_70 rfl (Nat.le_of_ble_eq_true rfl) (by decide) (by decide) (c_Mod_readNumberX h40 b (x_en b p0) hI41 2 2 tc_2 4 4 tc_4 s sZ sE (kn_nei eh40 (kn_call fh5 sK rfl) (by decide)) o9 o9Z o9E (kn_nei eh40 o9K (by decide)) o10 o10Z o10E (kn_nei eh40 o10K (by decide)) o11 o11Z o11E (kn_nei eh40 o11K (by decide)) o12 o12Z o12E (kn_nei eh40 o12K (by decide)) o13 o13Z o13E (kn_nei eh40 o13K (by decide)) o14 o14Z o14E (kn_nei eh40 o14K (by decide)) (TP_fr f42 (fun _ => rfl) hy0) (by (first | decide +kernel | with_reducible assumption | omega)) (Or.inl (by (first | decide +kernel | with_reducible assumption | omega)))) (fun z43 h44 z43Z z43E p45 => ?_)
    obtain ⟨hI46, fh44, o48, o48Z, o48E, o48K, o49, o49Z, o49E, o49K, o50, o50Z, o50E, o50K, o51, o51Z, o51E, o51K, o52, o52Z, o52E, o52K, o53, o53Z, o53E, o53K, p45⟩ := p45
    have f47 : fr S_Mod_readLineOfX_0 h h44 := fr_call f42 fh44 rfl
    have g54 : 0 ≤ o48Z ∧ o48Z ≤ 160 := inv_at hI46 o48E o48K.symm rfl
    have g55 : 0 ≤ o49Z ∧ o49Z ≤ 160 := inv_at hI46 o49E o49K.symm rfl
    replace p45 := And.intro (p45.1.resolve_right (fun q => by (first | decide +kernel | with_reducible assumption | omega))) p45.2
    refine N_putI fp_Mod_66 sk_116 rfl d_Mod_readLineOf_73 (fun h56 eh56 => ?_)
    have hI57 : Inv h56 := inv_put (lo := 0) (hi := 4) hI46 eh56 rfl z43E (by (first | decide +kernel | with_reducible assumption | omega))
    have f58 : fr S_Mod_readLineOfX_0 h h56 := fr_put f47 eh56 rfl
    refine V_goto 152 d_Mod_readLineOf_76 (by decide) ?_
    exact V_vret rfl d_Mod_readLineOf_152 ⟨rfl, ⟨hI57, f58, o48, o48Z, o48E, (kn_nei eh56 o48K (by decide)), o49, o49Z, o49E, (kn_nei eh56 o49K (by decide)), o50, o50Z, o50E, (kn_nei eh56 o50K (by decide)), o51, o51Z, o51E, (kn_nei eh56 o51K (by decide)), o52, o52Z, o52E, (kn_nei eh56 o52K (by decide)), o53, o53Z, o53E, (kn_nei eh56 o53K (by decide)), ⟨Or.inl ⟨by (first | decide +kernel | with_reducible assumption | omega), (show x_l0 b T p0 = (x_cN b (x_en b p0) 2 4, x_fr b (x_en b p0)) from by unfold x_l0; rw [x_sq_n (c := x_cN b p0 2 4) (by (first | decide +kernel | with_reducible assumption | omega)), x_sq_y (c := x_cN b (x_en b p0) 2 4) (by (first | decide +kernel | with_reducible assumption | omega))]).trans (pq (by (first | decide +kernel | with_reducible assumption | omega)) (by (first | decide +kernel | with_reducible assumption | omega)))⟩, by (first | decide +kernel | with_reducible assumption | omega), by (first | decide +kernel | with_reducible assumption | omega), by (first | decide +kernel | with_reducible assumption | omega)⟩⟩⟩
  ·
    replace p6 := And.intro ((p6.1.resolve_left (fun q => by (first | decide +kernel | with_reducible assumption | omega))).resolve_left (fun q => by (first | decide +kernel | with_reducible assumption | omega))).2.1 (And.intro ((p6.1.resolve_left (fun q => by (first | decide +kernel | with_reducible assumption | omega))).resolve_left (fun q => by (first | decide +kernel | with_reducible assumption | omega))).2.2.1 (And.intro (((p6.1.resolve_left (fun q => by (first | decide +kernel | with_reducible assumption | omega))).resolve_left (fun q => by (first | decide +kernel | with_reducible assumption | omega))).2.2.2.resolve_left (fun q => by (first | decide +kernel | with_reducible assumption | omega))) p6.2))
    have g59 := x_cN_0 p6.1
    refine N_putI fp_Mod_62 sk_116 rfl d_Mod_readLineOf_63 (fun h60 eh60 => ?_)
    have hI61 : Inv h60 := inv_put (lo := 0) (hi := 4) hI7 eh60 rfl z4E (by (first | decide +kernel | with_reducible assumption | omega))
    have f62 : fr S_Mod_readLineOfX_0 h h60 := fr_put f8 eh60 rfl
    have R63 : RM h60 T (x_up D 144 (x_vl b p0)) := RM_put R15 eh60 (Or.inr ⟨rfl, by decide, by decide, rfl⟩) (z4E.trans (by (first | decide +kernel | with_reducible assumption | omega))) (by (first | decide +kernel | with_reducible assumption | omega))
    refine V_aload_n 0 d_Mod_readLineOf_66 rfl rfl ?_
    refine V_aload_n 0 d_Mod_readLineOf_67 rfl rfl ?_
    refine V_iconst 2 d_Mod_readLineOf_68 (by decide) ?_
    refine V_iconst 4 d_Mod_readLineOf_69 (by decide) ?_
    refine N_callVI [.int 2, .int 4] [.ref 116] cv_Mod_158 sk_116 rfl d_Mod_readLineOf_70 rfl (Nat.le_of_ble_eq_true rfl) (by decide) (by decide) (c_Mod_readNumberX h60 b (x_en b p0) hI61 2 2 tc_2 4 4 tc_4 s sZ sE (kn_nei eh60 (kn_call fh5 sK rfl) (by decide)) o9 o9Z o9E (kn_nei eh60 o9K (by decide)) o10 o10Z o10E (kn_nei eh60 o10K (by decide)) o11 o11Z o11E (kn_nei eh60 o11K (by decide)) o12 o12Z o12E (kn_nei eh60 o12K (by decide)) o13 o13Z o13E (kn_nei eh60 o13K (by decide)) o14 o14Z o14E (kn_nei eh60 o14K (by decide)) (TP_fr f62 (fun _ => rfl) hy0) (by (first | decide +kernel | with_reducible assumption | omega)) (Or.inr ⟨by (first | decide +kernel | with_reducible assumption | omega), by (first | decide +kernel | with_reducible assumption | omega), by (first | decide +kernel | with_reducible assumption | omega), by (first | decide +kernel | with_reducible assumption | omega), by (first | decide +kernel | with_reducible assumption | omega), by (first | decide +kernel | with_reducible assumption | omega), by (first | decide +kernel | with_reducible assumption | omega), by (first | decide +kernel | with_reducible assumption | omega), by (first | decide +kernel | with_reducible assumption | omega), by (first | decide +kernel | with_reducible assumption | omega), by (first | decide +kernel | with_reducible assumption | omega)⟩)) (fun z64 h65 z64Z z64E p66 => ?_)
    obtain ⟨hI67, fh65, o69, o69Z, o69E, o69K, o70, o70Z, o70E, o70K, o71, o71Z, o71E, o71K, o72, o72Z, o72E, o72K, o73, o73Z, o73E, o73K, o74, o74Z, o74E, o74K, p66⟩ := p66
    have f68 : fr S_Mod_readLineOfX_0 h h65 := fr_call f62 fh65 rfl
    have R75 : RM h65 T (x_up D 144 (x_vl b p0)) := RM_fr fh65 rfl R63
    have g76 : 0 ≤ o69Z ∧ o69Z ≤ 160 := inv_at hI67 o69E o69K.symm rfl
    have g77 : 0 ≤ o70Z ∧ o70Z ≤ 160 := inv_at hI67 o70E o70K.symm rfl
    rcases (dj3 _ _ : o73Z ≠ 0 ∧ x_cN b (x_en b p0) 2 4 ≠ 0 ∨ o73Z ≠ 0 ∧ x_cN b (x_en b p0) 2 4 = 0 ∨ o73Z = 0) with c78 | c78 | c78
    ·
      replace p66 := And.intro ((p66.1.resolve_left (fun q => by (first | decide +kernel | with_reducible assumption | omega))).resolve_right (fun q => by (first | decide +kernel | with_reducible assumption | omega))) p66.2
      refine N_putI fp_Mod_66 sk_116 rfl d_Mod_readLineOf_73 (fun h79 eh79 => ?_)
      have hI80 : Inv h79 := inv_put (lo := 0) (hi := 4) hI67 eh79 rfl z64E (by (first | decide +kernel | with_reducible assumption | omega))
      have f81 : fr S_Mod_readLineOfX_0 h h79 := fr_put f68 eh79 rfl
      refine V_goto 152 d_Mod_readLineOf_76 (by decide) ?_
      exact V_vret rfl d_Mod_readLineOf_152 ⟨rfl, ⟨hI80, f81, o69, o69Z, o69E, (kn_nei eh79 o69K (by decide)), o70, o70Z, o70E, (kn_nei eh79 o70K (by decide)), o71, o71Z, o71E, (kn_nei eh79 o71K (by decide)), o72, o72Z, o72E, (kn_nei eh79 o72K (by decide)), o73, o73Z, o73E, (kn_nei eh79 o73K (by decide)), o74, o74Z, o74E, (kn_nei eh79 o74K (by decide)), ⟨Or.inl ⟨by (first | decide +kernel | with_reducible assumption | omega), (show x_l0 b T p0 = (x_cN b (x_en b p0) 2 4, x_fr b (x_en b p0)) from by unfold x_l0; rw [x_sq_n (c := x_cN b p0 2 4) (by (first | decide +kernel | with_reducible assumption | omega)), x_sq_y (c := x_cN b (x_en b p0) 2 4) (by (first | decide +kernel | with_reducible assumption | omega))]).trans (pq (by (first | decide +kernel | with_reducible assumption | omega)) (by (first | decide +kernel | with_reducible assumption | omega)))⟩, by (first | decide +kernel | with_reducible assumption | omega), by (first | decide +kernel | with_reducible assumption | omega), by (first | decide +kernel | with_reducible assumption | omega)⟩⟩⟩
    ·
      replace p66 := And.intro ((p66.1.resolve_left (fun q => by (first | decide +kernel | with_reducible assumption | omega))).resolve_left (fun q => by (first | decide +kernel | with_reducible assumption | omega))).2.1 (And.intro ((p66.1.resolve_left (fun q => by (first | decide +kernel | with_reducible assumption | omega))).resolve_left (fun q => by (first | decide +kernel | with_reducible assumption | omega))).2.2.1 (And.intro (((p66.1.resolve_left (fun q => by (first | decide +kernel | with_reducible assumption | omega))).resolve_left (fun q => by (first | decide +kernel | with_reducible assumption | omega))).2.2.2.resolve_right (fun q => by (first | decide +kernel | with_reducible assumption | omega))) p66.2))
      have g82 := x_cN_0 p66.1
      have g83 := x_cS_4 (b := b) (p := (x_en b (x_en b p0))) (by (first | decide +kernel | with_reducible assumption | omega))
      refine N_putI fp_Mod_66 sk_116 rfl d_Mod_readLineOf_73 (fun h84 eh84 => ?_)
      have hI85 : Inv h84 := inv_put (lo := 0) (hi := 4) hI67 eh84 rfl z64E (by (first | decide +kernel | with_reducible assumption | omega))
      have f86 : fr S_Mod_readLineOfX_0 h h84 := fr_put f68 eh84 rfl
      refine V_goto 152 d_Mod_readLineOf_76 (by decide) ?_
      exact V_vret rfl d_Mod_readLineOf_152 ⟨rfl, ⟨hI85, f86, o69, o69Z, o69E, (kn_nei eh84 o69K (by decide)), o70, o70Z, o70E, (kn_nei eh84 o70K (by decide)), o71, o71Z, o71E, (kn_nei eh84 o71K (by decide)), o72, o72Z, o72E, (kn_nei eh84 o72K (by decide)), o73, o73Z, o73E, (kn_nei eh84 o73K (by decide)), o74, o74Z, o74E, (kn_nei eh84 o74K (by decide)), ⟨Or.inl ⟨by (first | decide +kernel | with_reducible assumption | omega), (show x_l0 b T p0 = (x_cS b (x_en b (x_en b p0)), x_fr b (x_en b (x_en b p0))) from by unfold x_l0; rw [x_sq_n (c := x_cN b p0 2 4) (by (first | decide +kernel | with_reducible assumption | omega)), x_sq_n (c := x_cN b (x_en b p0) 2 4) (by (first | decide +kernel | with_reducible assumption | omega)), x_sq_y (c := x_cS b (x_en b (x_en b p0))) (by (first | decide +kernel | with_reducible assumption | omega))]).trans (pq (by (first | decide +kernel | with_reducible assumption | omega)) (by (first | decide +kernel | with_reducible assumption | omega)))⟩, by (first | decide +kernel | with_reducible assumption | omega), by (first | decide +kernel | with_reducible assumption | omega), by (first | decide +kernel | with_reducible assumption | omega)⟩⟩⟩
    ·
      replace p66 := And.intro ((p66.1.resolve_left (fun q => by (first | decide +kernel | with_reducible assumption | omega))).resolve_left (fun q => by (first | decide +kernel | with_reducible assumption | omega))).2.1 (And.intro ((p66.1.resolve_left (fun q => by (first | decide +kernel | with_reducible assumption | omega))).resolve_left (fun q => by (first | decide +kernel | with_reducible assumption | omega))).2.2.1 (And.intro (((p66.1.resolve_left (fun q => by (first | decide +kernel | with_reducible assumption | omega))).resolve_left (fun q => by (first | decide +kernel | with_reducible assumption | omega))).2.2.2.resolve_left (fun q => by (first | decide +kernel | with_reducible assumption | omega))) p66.2))
      have g87 := x_cN_0 p66.1
      refine N_putI fp_Mod_66 sk_116 rfl d_Mod_readLineOf_73 (fun h88 eh88 => ?_)
      have hI89 : Inv h88 := inv_put (lo := 0) (hi := 4) hI67 eh88 rfl z64E (by (first | decide +kernel | with_reducible assumption | omega))
      have f90 : fr S_Mod_readLineOfX_0 h h88 := fr_put f68 eh88 rfl
      have R91 : RM h88 T (x_up (x_up D 144 (x_vl b p0)) 145 (x_vl b (x_en b p0))) := RM_put R75 eh88 (Or.inr ⟨rfl, by decide, by decide, rfl⟩) (z64E.trans (by (first | decide +kernel | with_reducible assumption | omega))) (by (first | decide +kernel | with_reducible assumption | omega))
      refine V_goto 152 d_Mod_readLineOf_76 (by decide) ?_
      exact V_vret rfl d_Mod_readLineOf_152 ⟨rfl, ⟨hI89, f90, o69, o69Z, o69E, (kn_nei eh88 o69K (by decide)), o70, o70Z, o70E, (kn_nei eh88 o70K (by decide)), o71, o71Z, o71E, (kn_nei eh88 o71K (by decide)), o72, o72Z, o72E, (kn_nei eh88 o72K (by decide)), o73, o73Z, o73E, (kn_nei eh88 o73K (by decide)), o74, o74Z, o74E, (kn_nei eh88 o74K (by decide)), ⟨Or.inr ⟨by (first | decide +kernel | with_reducible assumption | omega), by unfold x_l0; rw [x_sq_n (c := x_cN b p0 2 4) (by (first | decide +kernel | with_reducible assumption | omega)), x_sq_n (c := x_cN b (x_en b p0) 2 4) (by (first | decide +kernel | with_reducible assumption | omega))], p66.2.2.1.2, R91⟩, by (first | decide +kernel | with_reducible assumption | omega), by (first | decide +kernel | with_reducible assumption | omega), by (first | decide +kernel | with_reducible assumption | omega)⟩⟩⟩
def S_Mod_readLineOfX_1 : List (Nat × Option Nat) := [(116, some 16), (116, some 17), (116, some 18), (116, some 19), (116, some 20), (116, some 21), (116, some 9)]
abbrev q_Mod_readLineOfX_1 (h : Hp) (b : Int → Int) (T : Nat → Int → Int) (D : Nat → Int) (p0 : Int) (s : Int32) (sZ : Int) (p : Int32) (pZ : Int) (g : Int32) (gZ : Int) (k : Int32) (kZ : Int) (v : Int32) (vZ : Int) (w : Int32) (wZ : Int) (a : Int32) (aZ : Int) : Option Value → Hp → Prop := pVd (fun h' => Inv h' ∧ fr S_Mod_readLineOfX_1 h h' ∧ ∃ (q : Int32) (qZ : Int), q.toInt = qZ ∧ h'.1 116 16 = q ∧ ∃ (f : Int32) (fZ : Int), f.toInt = fZ ∧ h'.1 116 17 = f ∧ ∃ (m : Int32) (mZ : Int), m.toInt = mZ ∧ h'.1 116 18 = m ∧ ∃ (x : Int32) (xZ : Int), x.toInt = xZ ∧ h'.1 116 19 = x ∧ ∃ (u : Int32) (uZ : Int), u.toInt = uZ ∧ h'.1 116 20 = u ∧ ∃ (y : Int32) (yZ : Int), y.toInt = yZ ∧ h'.1 116 21 = y ∧ ((uZ ≠ 0 ∧ x_l6 b T p0 = (uZ, yZ) ∨ uZ = 0 ∧ x_l6 b T p0 = x_sq (x_cS b (x_en b p0)) (x_fr b (x_en b p0)) (0, x_en b (x_en b p0)) ∧ (fZ = x_fr b (x_en b p0) ∧ mZ = x_kd b (x_en b p0) ∧ mZ ≠ 4 ∧ 0 ≤ mZ ∧ mZ ≤ 3 ∧ qZ = x_en b (x_en b p0) ∧ (mZ ≠ 2 ∨ xZ = x_vl b (x_en b p0) ∧ 0 ≤ xZ ∧ xZ ≤ 99) ∧ (x_en b p0) ≤ fZ ∧ fZ ≤ qZ ∧ qZ ≤ sZ ∧ (mZ = 0 ∨ fZ < qZ)) ∧ RM h' T (x_up D 146 (x_vl b p0))) ∧ 0 ≤ qZ ∧ qZ ≤ sZ ∧ 0 ≤ uZ))
set_option maxRecDepth 100000 in
theorem c_Mod_readLineOfX_1 (h : Hp) (b : Int → Int) (T : Nat → Int → Int) (D : Nat → Int) (p0 : Int) (hI : Inv h) (s : Int32) (sZ : Int) (sE : s.toInt = sZ) (sK : h.1 116 15 = s) (p : Int32) (pZ : Int) (pE : p.toInt = pZ) (pK : h.1 116 16 = p) (g : Int32) (gZ : Int) (gE : g.toInt = gZ) (gK : h.1 116 17 = g) (k : Int32) (kZ : Int) (kE : k.toInt = kZ) (kK : h.1 116 18 = k) (v : Int32) (vZ : Int) (vE : v.toInt = vZ) (vK : h.1 116 19 = v) (w : Int32) (wZ : Int) (wE : w.toInt = wZ) (wK : h.1 116 20 = w) (a : Int32) (aZ : Int) (aE : a.toInt = aZ) (aK : h.1 116 21 = a) (hy0 : TP h 121 sZ b) (hy1 : 0 ≤ pZ ∧ pZ ≤ sZ ∧ wZ = 0) (hy2 : gZ = x_fr b p0 ∧ kZ = x_kd b p0 ∧ kZ ≠ 4 ∧ 0 ≤ kZ ∧ kZ ≤ 3 ∧ pZ = x_en b p0 ∧ (kZ ≠ 2 ∨ vZ = x_vl b p0 ∧ 0 ≤ vZ ∧ vZ ≤ 99) ∧ p0 ≤ gZ ∧ gZ ≤ pZ ∧ pZ ≤ sZ ∧ (kZ = 0 ∨ gZ < pZ)) (hy3 : RM h T D) : Ct y_Mod_readLineOf b_Mod_readLineOf 3 none 3 70 [.ref 116, .int 1] h (q_Mod_readLineOfX_1 h b T D p0 s sZ p pZ g gZ k kZ v vZ w wZ a aZ) := by
  refine ct_ow R_Mod [some (.ref 116), some (.int 1), none] rfl (by decide) rfl (Nat.le_of_ble_eq_true rfl) ?_
  have f0 : fr S_Mod_readLineOfX_1 h h := fr_rf
  have g1 : 0 ≤ sZ ∧ sZ ≤ 160 := inv_at hI sE sK.symm rfl
  have g2 : 0 ≤ pZ ∧ pZ ≤ 160 := inv_at hI pE pK.symm rfl
  have g3 : 0 ≤ gZ ∧ gZ ≤ 160 := inv_at hI gE gK.symm rfl
  refine V_iload_n 1 d_Mod_readLineOf_0 rfl rfl ?_
  refine V_tabIn 79 tc_1 d_Mod_readLineOf_1 (by decide) (by decide) rfl (by decide) ?_
  refine V_aload_n 0 d_Mod_readLineOf_79 rfl rfl ?_
  refine V_aload_n 0 d_Mod_readLineOf_80 rfl rfl ?_
  refine V_iconst 1 d_Mod_readLineOf_81 (by decide) ?_
  refine V_bipush 9 d_Mod_readLineOf_82 (by decide) ?_
  refine N_callVI [.int 1, .int 9] [.ref 116] cv_Mod_158 sk_116 rfl d_Mod_readLineOf_84 rfl (Nat.le_of_ble_eq_true rfl) (by decide) (by decide) (c_Mod_readNumberX h b p0 hI 1 1 tc_1 9 9 tc_9 s sZ sE sK p pZ pE pK g gZ gE gK k kZ kE kK v vZ vE vK w wZ wE wK a aZ aE aK (TP_fr f0 (fun _ => rfl) hy0) (by (first | decide +kernel | with_reducible assumption | omega)) (Or.inr ⟨by (first | decide +kernel | with_reducible assumption | omega), by (first | decide +kernel | with_reducible assumption | omega), by (first | decide +kernel | with_reducible assumption | omega), by (first | decide +kernel | with_reducible assumption | omega), by (first | decide +kernel | with_reducible assumption | omega), by (first | decide +kernel | with_reducible assumption | omega), by (first | decide +kernel | with_reducible assumption | omega), by (first | decide +kernel | with_reducible assumption | omega), by (first | decide +kernel | with_reducible assumption | omega), by (first | decide +kernel | with_reducible assumption | omega), by (first | decide +kernel | with_reducible assumption | omega)⟩)) (fun z4 h5 z4Z z4E p6 => ?_)
  obtain ⟨hI7, fh5, o9, o9Z, o9E, o9K, o10, o10Z, o10E, o10K, o11, o11Z, o11E, o11K, o12, o12Z, o12E, o12K, o13, o13Z, o13E, o13K, o14, o14Z, o14E, o14K, p6⟩ := p6
  have f8 : fr S_Mod_readLineOfX_1 h h5 := fr_call f0 fh5 rfl
  have R15 : RM h5 T D := RM_fr fh5 rfl hy3
  have g16 : 0 ≤ o9Z ∧ o9Z ≤ 160 := inv_at hI7 o9E o9K.symm rfl
  have g17 : 0 ≤ o10Z ∧ o10Z ≤ 160 := inv_at hI7 o10E o10K.symm rfl
  rcases (dj3 _ _ : o13Z ≠ 0 ∧ x_cN b p0 1 9 ≠ 0 ∨ o13Z ≠ 0 ∧ x_cN b p0 1 9 = 0 ∨ o13Z = 0) with c18 | c18 | c18
  ·
    replace p6 := And.intro ((p6.1.resolve_left (fun q => by (first | decide +kernel | with_reducible assumption | omega))).resolve_right (fun q => by (first | decide +kernel | with_reducible assumption | omega))) p6.2
    refine N_putI fp_Mod_69 sk_116 rfl d_Mod_readLineOf_87 (fun h19 eh19 => ?_)
    have hI20 : Inv h19 := inv_full hI7 eh19 rfl
    have f21 : fr S_Mod_readLineOfX_1 h h19 := fr_put f8 eh19 rfl
    refine V_goto 152 d_Mod_readLineOf_90 (by decide) ?_
    exact V_vret rfl d_Mod_readLineOf_152 ⟨rfl, ⟨hI20, f21, o9, o9Z, o9E, (kn_nei eh19 o9K (by decide)), o10, o10Z, o10E, (kn_nei eh19 o10K (by decide)), o11, o11Z, o11E, (kn_nei eh19 o11K (by decide)), o12, o12Z, o12E, (kn_nei eh19 o12K (by decide)), o13, o13Z, o13E, (kn_nei eh19 o13K (by decide)), o14, o14Z, o14E, (kn_nei eh19 o14K (by decide)), ⟨Or.inl ⟨by (first | decide +kernel | with_reducible assumption | omega), (show x_l6 b T p0 = (x_cN b p0 1 9, x_fr b p0) from by unfold x_l6; rw [x_sq_y (c := x_cN b p0 1 9) (by (first | decide +kernel | with_reducible assumption | omega))]).trans (pq (by (first | decide +kernel | with_reducible assumption | omega)) (by (first | decide +kernel | with_reducible assumption | omega)))⟩, by (first | decide +kernel | with_reducible assumption | omega), by (first | decide +kernel | with_reducible assumption | omega), by (first | decide +kernel | with_reducible assumption | omega)⟩⟩⟩
  ·
    replace p6 := And.intro ((p6.1.resolve_left (fun q => by (first | decide +kernel | with_reducible assumption | omega))).resolve_left (fun q => by (first | decide +kernel | with_reducible assumption | omega))).2.1 (And.intro ((p6.1.resolve_left (fun q => by (first | decide +kernel | with_reducible assumption | omega))).resolve_left (fun q => by (first | decide +kernel | with_reducible assumption | omega))).2.2.1 (And.intro (((p6.1.resolve_left (fun q => by (first | decide +kernel | with_reducible assumption | omega))).resolve_left (fun q => by (first | decide +kernel | with_reducible assumption | omega))).2.2.2.resolve_right (fun q => by (first | decide +kernel | with_reducible assumption | omega))) p6.2))
    have g22 := x_cN_0 p6.1
    have g23 := x_cS_4 (b := b) (p := (x_en b p0)) (by (first | decide +kernel | with_reducible assumption | omega))
    refine N_putI fp_Mod_69 sk_116 rfl d_Mod_readLineOf_87 (fun h24 eh24 => ?_)
    have hI25 : Inv h24 := inv_full hI7 eh24 rfl
    have f26 : fr S_Mod_readLineOfX_1 h h24 := fr_put f8 eh24 rfl
    refine V_goto 152 d_Mod_readLineOf_90 (by decide) ?_
    exact V_vret rfl d_Mod_readLineOf_152 ⟨rfl, ⟨hI25, f26, o9, o9Z, o9E, (kn_nei eh24 o9K (by decide)), o10, o10Z, o10E, (kn_nei eh24 o10K (by decide)), o11, o11Z, o11E, (kn_nei eh24 o11K (by decide)), o12, o12Z, o12E, (kn_nei eh24 o12K (by decide)), o13, o13Z, o13E, (kn_nei eh24 o13K (by decide)), o14, o14Z, o14E, (kn_nei eh24 o14K (by decide)), ⟨Or.inl ⟨by (first | decide +kernel | with_reducible assumption | omega), (show x_l6 b T p0 = (x_cS b (x_en b p0), x_fr b (x_en b p0)) from by unfold x_l6; rw [x_sq_n (c := x_cN b p0 1 9) (by (first | decide +kernel | with_reducible assumption | omega)), x_sq_y (c := x_cS b (x_en b p0)) (by (first | decide +kernel | with_reducible assumption | omega))]).trans (pq (by (first | decide +kernel | with_reducible assumption | omega)) (by (first | decide +kernel | with_reducible assumption | omega)))⟩, by (first | decide +kernel | with_reducible assumption | omega), by (first | decide +kernel | with_reducible assumption | omega), by (first | decide +kernel | with_reducible assumption | omega)⟩⟩⟩
  ·
    replace p6 := And.intro ((p6.1.resolve_left (fun q => by (first | decide +kernel | with_reducible assumption | omega))).resolve_left (fun q => by (first | decide +kernel | with_reducible assumption | omega))).2.1 (And.intro ((p6.1.resolve_left (fun q => by (first | decide +kernel | with_reducible assumption | omega))).resolve_left (fun q => by (first | decide +kernel | with_reducible assumption | omega))).2.2.1 (And.intro (((p6.1.resolve_left (fun q => by (first | decide +kernel | with_reducible assumption | omega))).resolve_left (fun q => by (first | decide +kernel | with_reducible assumption | omega))).2.2.2.resolve_left (fun q => by (first | decide +kernel | with_reducible assumption | omega))) p6.2))
    have g27 := x_cN_0 p6.1
    refine N_putI fp_Mod_69 sk_116 rfl d_Mod_readLineOf_87 (fun h28 eh28 => ?_)
    have hI29 : Inv h28 := inv_full hI7 eh28 rfl
    have f30 : fr S_Mod_readLineOfX_1 h h28 := fr_put f8 eh28 rfl
    have R31 : RM h28 T (x_up D 146 (x_vl b p0)) := RM_put R15 eh28 (Or.inr ⟨rfl, by decide, by decide, rfl⟩) (z4E.trans (by (first | decide +kernel | with_reducible assumption | omega))) (by (first | decide +kernel | with_reducible assumption | omega))
    refine V_goto 152 d_Mod_readLineOf_90 (by decide) ?_
    exact V_vret rfl d_Mod_readLineOf_152 ⟨rfl, ⟨hI29, f30, o9, o9Z, o9E, (kn_nei eh28 o9K (by decide)), o10, o10Z, o10E, (kn_nei eh28 o10K (by decide)), o11, o11Z, o11E, (kn_nei eh28 o11K (by decide)), o12, o12Z, o12E, (kn_nei eh28 o12K (by decide)), o13, o13Z, o13E, (kn_nei eh28 o13K (by decide)), o14, o14Z, o14E, (kn_nei eh28 o14K (by decide)), ⟨Or.inr ⟨by (first | decide +kernel | with_reducible assumption | omega), by unfold x_l6; rw [x_sq_n (c := x_cN b p0 1 9) (by (first | decide +kernel | with_reducible assumption | omega))], p6.2.2.1.2, R31⟩, by (first | decide +kernel | with_reducible assumption | omega), by (first | decide +kernel | with_reducible assumption | omega), by (first | decide +kernel | with_reducible assumption | omega)⟩⟩⟩
def S_Mod_readLineOfX_2 : List (Nat × Option Nat) := [(116, some 16), (116, some 17), (116, some 18), (116, some 19), (116, some 20), (116, some 21), (116, some 10)]
abbrev q_Mod_readLineOfX_2 (h : Hp) (b : Int → Int) (T : Nat → Int → Int) (D : Nat → Int) (p0 : Int) (s : Int32) (sZ : Int) (p : Int32) (pZ : Int) (g : Int32) (gZ : Int) (k : Int32) (kZ : Int) (v : Int32) (vZ : Int) (w : Int32) (wZ : Int) (a : Int32) (aZ : Int) : Option Value → Hp → Prop := pVd (fun h' => Inv h' ∧ fr S_Mod_readLineOfX_2 h h' ∧ ∃ (q : Int32) (qZ : Int), q.toInt = qZ ∧ h'.1 116 16 = q ∧ ∃ (f : Int32) (fZ : Int), f.toInt = fZ ∧ h'.1 116 17 = f ∧ ∃ (m : Int32) (mZ : Int), m.toInt = mZ ∧ h'.1 116 18 = m ∧ ∃ (x : Int32) (xZ : Int), x.toInt = xZ ∧ h'.1 116 19 = x ∧ ∃ (u : Int32) (uZ : Int), u.toInt = uZ ∧ h'.1 116 20 = u ∧ ∃ (y : Int32) (yZ : Int), y.toInt = yZ ∧ h'.1 116 21 = y ∧ ((uZ ≠ 0 ∧ x_l7 b T p0 = (uZ, yZ) ∨ uZ = 0 ∧ x_l7 b T p0 = x_sq (x_cS b (x_en b p0)) (x_fr b (x_en b p0)) (0, x_en b (x_en b p0)) ∧ (fZ = x_fr b (x_en b p0) ∧ mZ = x_kd b (x_en b p0) ∧ mZ ≠ 4 ∧ 0 ≤ mZ ∧ mZ ≤ 3 ∧ qZ = x_en b (x_en b p0) ∧ (mZ ≠ 2 ∨ xZ = x_vl b (x_en b p0) ∧ 0 ≤ xZ ∧ xZ ≤ 99) ∧ (x_en b p0) ≤ fZ ∧ fZ ≤ qZ ∧ qZ ≤ sZ ∧ (mZ = 0 ∨ fZ < qZ)) ∧ RM h' T (x_up D 147 (x_vl b p0))) ∧ 0 ≤ qZ ∧ qZ ≤ sZ ∧ 0 ≤ uZ))
set_option maxRecDepth 100000 in
theorem c_Mod_readLineOfX_2 (h : Hp) (b : Int → Int) (T : Nat → Int → Int) (D : Nat → Int) (p0 : Int) (hI : Inv h) (s : Int32) (sZ : Int) (sE : s.toInt = sZ) (sK : h.1 116 15 = s) (p : Int32) (pZ : Int) (pE : p.toInt = pZ) (pK : h.1 116 16 = p) (g : Int32) (gZ : Int) (gE : g.toInt = gZ) (gK : h.1 116 17 = g) (k : Int32) (kZ : Int) (kE : k.toInt = kZ) (kK : h.1 116 18 = k) (v : Int32) (vZ : Int) (vE : v.toInt = vZ) (vK : h.1 116 19 = v) (w : Int32) (wZ : Int) (wE : w.toInt = wZ) (wK : h.1 116 20 = w) (a : Int32) (aZ : Int) (aE : a.toInt = aZ) (aK : h.1 116 21 = a) (hy0 : TP h 121 sZ b) (hy1 : 0 ≤ pZ ∧ pZ ≤ sZ ∧ wZ = 0) (hy2 : gZ = x_fr b p0 ∧ kZ = x_kd b p0 ∧ kZ ≠ 4 ∧ 0 ≤ kZ ∧ kZ ≤ 3 ∧ pZ = x_en b p0 ∧ (kZ ≠ 2 ∨ vZ = x_vl b p0 ∧ 0 ≤ vZ ∧ vZ ≤ 99) ∧ p0 ≤ gZ ∧ gZ ≤ pZ ∧ pZ ≤ sZ ∧ (kZ = 0 ∨ gZ < pZ)) (hy3 : RM h T D) : Ct y_Mod_readLineOf b_Mod_readLineOf 3 none 3 70 [.ref 116, .int 2] h (q_Mod_readLineOfX_2 h b T D p0 s sZ p pZ g gZ k kZ v vZ w wZ a aZ) := by
  refine ct_ow R_Mod [some (.ref 116), some (.int 2), none] rfl (by decide) rfl (Nat.le_of_ble_eq_true rfl) ?_
  have f0 : fr S_Mod_readLineOfX_2 h h := fr_rf
  have g1 : 0 ≤ sZ ∧ sZ ≤ 160 := inv_at hI sE sK.symm rfl
  have g2 : 0 ≤ pZ ∧ pZ ≤ 160 := inv_at hI pE pK.symm rfl
  have g3 : 0 ≤ gZ ∧ gZ ≤ 160 := inv_at hI gE gK.symm rfl
  refine V_iload_n 1 d_Mod_readLineOf_0 rfl rfl ?_
  refine V_tabIn 93 tc_2 d_Mod_readLineOf_1 (by decide) (by decide) rfl (by decide) ?_
  refine V_aload_n 0 d_Mod_readLineOf_93 rfl rfl ?_
  refine V_aload_n 0 d_Mod_readLineOf_94 rfl rfl ?_
  refine V_iconst 1 d_Mod_readLineOf_95 (by decide) ?_
  refine V_bipush 99 d_Mod_readLineOf_96 (by decide) ?_
  refine N_callVI [.int 1, .int 99] [.ref 116] cv_Mod_158 sk_116 rfl d_Mod_readLineOf_98 rfl (Nat.le_of_ble_eq_true rfl) (by decide) (by decide) (c_Mod_readNumberX h b p0 hI 1 1 tc_1 99 99 tc_99 s sZ sE sK p pZ pE pK g gZ gE gK k kZ kE kK v vZ vE vK w wZ wE wK a aZ aE aK (TP_fr f0 (fun _ => rfl) hy0) (by (first | decide +kernel | with_reducible assumption | omega)) (Or.inr ⟨by (first | decide +kernel | with_reducible assumption | omega), by (first | decide +kernel | with_reducible assumption | omega), by (first | decide +kernel | with_reducible assumption | omega), by (first | decide +kernel | with_reducible assumption | omega), by (first | decide +kernel | with_reducible assumption | omega), by (first | decide +kernel | with_reducible assumption | omega), by (first | decide +kernel | with_reducible assumption | omega), by (first | decide +kernel | with_reducible assumption | omega), by (first | decide +kernel | with_reducible assumption | omega), by (first | decide +kernel | with_reducible assumption | omega), by (first | decide +kernel | with_reducible assumption | omega)⟩)) (fun z4 h5 z4Z z4E p6 => ?_)
  obtain ⟨hI7, fh5, o9, o9Z, o9E, o9K, o10, o10Z, o10E, o10K, o11, o11Z, o11E, o11K, o12, o12Z, o12E, o12K, o13, o13Z, o13E, o13K, o14, o14Z, o14E, o14K, p6⟩ := p6
  have f8 : fr S_Mod_readLineOfX_2 h h5 := fr_call f0 fh5 rfl
  have R15 : RM h5 T D := RM_fr fh5 rfl hy3
  have g16 : 0 ≤ o9Z ∧ o9Z ≤ 160 := inv_at hI7 o9E o9K.symm rfl
  have g17 : 0 ≤ o10Z ∧ o10Z ≤ 160 := inv_at hI7 o10E o10K.symm rfl
  rcases (dj3 _ _ : o13Z ≠ 0 ∧ x_cN b p0 1 99 ≠ 0 ∨ o13Z ≠ 0 ∧ x_cN b p0 1 99 = 0 ∨ o13Z = 0) with c18 | c18 | c18
  ·
    replace p6 := And.intro ((p6.1.resolve_left (fun q => by (first | decide +kernel | with_reducible assumption | omega))).resolve_right (fun q => by (first | decide +kernel | with_reducible assumption | omega))) p6.2
    refine N_putI fp_Mod_72 sk_116 rfl d_Mod_readLineOf_101 (fun h19 eh19 => ?_)
    have hI20 : Inv h19 := inv_full hI7 eh19 rfl
    have f21 : fr S_Mod_readLineOfX_2 h h19 := fr_put f8 eh19 rfl
    refine V_goto 152 d_Mod_readLineOf_104 (by decide) ?_
    exact V_vret rfl d_Mod_readLineOf_152 ⟨rfl, ⟨hI20, f21, o9, o9Z, o9E, (kn_nei eh19 o9K (by decide)), o10, o10Z, o10E, (kn_nei eh19 o10K (by decide)), o11, o11Z, o11E, (kn_nei eh19 o11K (by decide)), o12, o12Z, o12E, (kn_nei eh19 o12K (by decide)), o13, o13Z, o13E, (kn_nei eh19 o13K (by decide)), o14, o14Z, o14E, (kn_nei eh19 o14K (by decide)), ⟨Or.inl ⟨by (first | decide +kernel | with_reducible assumption | omega), (show x_l7 b T p0 = (x_cN b p0 1 99, x_fr b p0) from by unfold x_l7; rw [x_sq_y (c := x_cN b p0 1 99) (by (first | decide +kernel | with_reducible assumption | omega))]).trans (pq (by (first | decide +kernel | with_reducible assumption | omega)) (by (first | decide +kernel | with_reducible assumption | omega)))⟩, by (first | decide +kernel | with_reducible assumption | omega), by (first | decide +kernel | with_reducible assumption | omega), by (first | decide +kernel | with_reducible assumption | omega)⟩⟩⟩
  ·
    replace p6 := And.intro ((p6.1.resolve_left (fun q => by (first | decide +kernel | with_reducible assumption | omega))).resolve_left (fun q => by (first | decide +kernel | with_reducible assumption | omega))).2.1 (And.intro ((p6.1.resolve_left (fun q => by (first | decide +kernel | with_reducible assumption | omega))).resolve_left (fun q => by (first | decide +kernel | with_reducible assumption | omega))).2.2.1 (And.intro (((p6.1.resolve_left (fun q => by (first | decide +kernel | with_reducible assumption | omega))).resolve_left (fun q => by (first | decide +kernel | with_reducible assumption | omega))).2.2.2.resolve_right (fun q => by (first | decide +kernel | with_reducible assumption | omega))) p6.2))
    have g22 := x_cN_0 p6.1
    have g23 := x_cS_4 (b := b) (p := (x_en b p0)) (by (first | decide +kernel | with_reducible assumption | omega))
    refine N_putI fp_Mod_72 sk_116 rfl d_Mod_readLineOf_101 (fun h24 eh24 => ?_)
    have hI25 : Inv h24 := inv_full hI7 eh24 rfl
    have f26 : fr S_Mod_readLineOfX_2 h h24 := fr_put f8 eh24 rfl
    refine V_goto 152 d_Mod_readLineOf_104 (by decide) ?_
    exact V_vret rfl d_Mod_readLineOf_152 ⟨rfl, ⟨hI25, f26, o9, o9Z, o9E, (kn_nei eh24 o9K (by decide)), o10, o10Z, o10E, (kn_nei eh24 o10K (by decide)), o11, o11Z, o11E, (kn_nei eh24 o11K (by decide)), o12, o12Z, o12E, (kn_nei eh24 o12K (by decide)), o13, o13Z, o13E, (kn_nei eh24 o13K (by decide)), o14, o14Z, o14E, (kn_nei eh24 o14K (by decide)), ⟨Or.inl ⟨by (first | decide +kernel | with_reducible assumption | omega), (show x_l7 b T p0 = (x_cS b (x_en b p0), x_fr b (x_en b p0)) from by unfold x_l7; rw [x_sq_n (c := x_cN b p0 1 99) (by (first | decide +kernel | with_reducible assumption | omega)), x_sq_y (c := x_cS b (x_en b p0)) (by (first | decide +kernel | with_reducible assumption | omega))]).trans (pq (by (first | decide +kernel | with_reducible assumption | omega)) (by (first | decide +kernel | with_reducible assumption | omega)))⟩, by (first | decide +kernel | with_reducible assumption | omega), by (first | decide +kernel | with_reducible assumption | omega), by (first | decide +kernel | with_reducible assumption | omega)⟩⟩⟩
  ·
    replace p6 := And.intro ((p6.1.resolve_left (fun q => by (first | decide +kernel | with_reducible assumption | omega))).resolve_left (fun q => by (first | decide +kernel | with_reducible assumption | omega))).2.1 (And.intro ((p6.1.resolve_left (fun q => by (first | decide +kernel | with_reducible assumption | omega))).resolve_left (fun q => by (first | decide +kernel | with_reducible assumption | omega))).2.2.1 (And.intro (((p6.1.resolve_left (fun q => by (first | decide +kernel | with_reducible assumption | omega))).resolve_left (fun q => by (first | decide +kernel | with_reducible assumption | omega))).2.2.2.resolve_left (fun q => by (first | decide +kernel | with_reducible assumption | omega))) p6.2))
    have g27 := x_cN_0 p6.1
    refine N_putI fp_Mod_72 sk_116 rfl d_Mod_readLineOf_101 (fun h28 eh28 => ?_)
    have hI29 : Inv h28 := inv_full hI7 eh28 rfl
    have f30 : fr S_Mod_readLineOfX_2 h h28 := fr_put f8 eh28 rfl
    have R31 : RM h28 T (x_up D 147 (x_vl b p0)) := RM_put R15 eh28 (Or.inr ⟨rfl, by decide, by decide, rfl⟩) (z4E.trans (by (first | decide +kernel | with_reducible assumption | omega))) (by (first | decide +kernel | with_reducible assumption | omega))
    refine V_goto 152 d_Mod_readLineOf_104 (by decide) ?_
    exact V_vret rfl d_Mod_readLineOf_152 ⟨rfl, ⟨hI29, f30, o9, o9Z, o9E, (kn_nei eh28 o9K (by decide)), o10, o10Z, o10E, (kn_nei eh28 o10K (by decide)), o11, o11Z, o11E, (kn_nei eh28 o11K (by decide)), o12, o12Z, o12E, (kn_nei eh28 o12K (by decide)), o13, o13Z, o13E, (kn_nei eh28 o13K (by decide)), o14, o14Z, o14E, (kn_nei eh28 o14K (by decide)), ⟨Or.inr ⟨by (first | decide +kernel | with_reducible assumption | omega), by unfold x_l7; rw [x_sq_n (c := x_cN b p0 1 99) (by (first | decide +kernel | with_reducible assumption | omega))], p6.2.2.1.2, R31⟩, by (first | decide +kernel | with_reducible assumption | omega), by (first | decide +kernel | with_reducible assumption | omega), by (first | decide +kernel | with_reducible assumption | omega)⟩⟩⟩
def S_Mod_readLineOfX_3 : List (Nat × Option Nat) := [(116, some 16), (116, some 17), (116, some 18), (116, some 19), (116, some 20), (116, some 21), (119, none)]
abbrev q_Mod_readLineOfX_3 (h : Hp) (b : Int → Int) (T : Nat → Int → Int) (D : Nat → Int) (p0 : Int) (s : Int32) (sZ : Int) (p : Int32) (pZ : Int) (g : Int32) (gZ : Int) (k : Int32) (kZ : Int) (v : Int32) (vZ : Int) (w : Int32) (wZ : Int) (a : Int32) (aZ : Int) : Option Value → Hp → Prop := pVd (fun h' => Inv h' ∧ fr S_Mod_readLineOfX_3 h h' ∧ ∃ (q : Int32) (qZ : Int), q.toInt = qZ ∧ h'.1 116 16 = q ∧ ∃ (f : Int32) (fZ : Int), f.toInt = fZ ∧ h'.1 116 17 = f ∧ ∃ (m : Int32) (mZ : Int), m.toInt = mZ ∧ h'.1 116 18 = m ∧ ∃ (x : Int32) (xZ : Int), x.toInt = xZ ∧ h'.1 116 19 = x ∧ ∃ (u : Int32) (uZ : Int), u.toInt = uZ ∧ h'.1 116 20 = u ∧ ∃ (y : Int32) (yZ : Int), y.toInt = yZ ∧ h'.1 116 21 = y ∧ ((uZ ≠ 0 ∧ x_l8 b T p0 = (uZ, yZ) ∨ uZ = 0 ∧ x_l8 b T p0 = x_sq (x_cS b (x_en b (x_en b p0))) (x_fr b (x_en b (x_en b p0))) (0, x_en b (x_en b (x_en b p0))) ∧ (fZ = x_fr b (x_en b (x_en b p0)) ∧ mZ = x_kd b (x_en b (x_en b p0)) ∧ mZ ≠ 4 ∧ 0 ≤ mZ ∧ mZ ≤ 3 ∧ qZ = x_en b (x_en b (x_en b p0)) ∧ (mZ ≠ 2 ∨ xZ = x_vl b (x_en b (x_en b p0)) ∧ 0 ≤ xZ ∧ xZ ≤ 99) ∧ (x_en b (x_en b p0)) ≤ fZ ∧ fZ ≤ qZ ∧ qZ ≤ sZ ∧ (mZ = 0 ∨ fZ < qZ)) ∧ RM h' T (x_up (x_up D 84 (x_nn b p0)) 85 (x_vl b (x_en b p0)))) ∧ 0 ≤ qZ ∧ qZ ≤ sZ ∧ 0 ≤ uZ))
set_option maxRecDepth 100000 in
theorem c_Mod_readLineOfX_3 (h : Hp) (b : Int → Int) (T : Nat → Int → Int) (D : Nat → Int) (p0 : Int) (hI : Inv h) (s : Int32) (sZ : Int) (sE : s.toInt = sZ) (sK : h.1 116 15 = s) (p : Int32) (pZ : Int) (pE : p.toInt = pZ) (pK : h.1 116 16 = p) (g : Int32) (gZ : Int) (gE : g.toInt = gZ) (gK : h.1 116 17 = g) (k : Int32) (kZ : Int) (kE : k.toInt = kZ) (kK : h.1 116 18 = k) (v : Int32) (vZ : Int) (vE : v.toInt = vZ) (vK : h.1 116 19 = v) (w : Int32) (wZ : Int) (wE : w.toInt = wZ) (wK : h.1 116 20 = w) (a : Int32) (aZ : Int) (aE : a.toInt = aZ) (aK : h.1 116 21 = a) (hy0 : TP h 121 sZ b) (hy1 : 0 ≤ pZ ∧ pZ ≤ sZ ∧ wZ = 0) (hy2 : gZ = x_fr b p0 ∧ kZ = x_kd b p0 ∧ kZ ≠ 4 ∧ 0 ≤ kZ ∧ kZ ≤ 3 ∧ pZ = x_en b p0 ∧ (kZ ≠ 2 ∨ vZ = x_vl b p0 ∧ 0 ≤ vZ ∧ vZ ≤ 99) ∧ p0 ≤ gZ ∧ gZ ≤ pZ ∧ pZ ≤ sZ ∧ (kZ = 0 ∨ gZ < pZ)) (hy3 : RM h T D) : Ct y_Mod_readLineOf b_Mod_readLineOf 3 none 4 91 [.ref 116, .int 3] h (q_Mod_readLineOfX_3 h b T D p0 s sZ p pZ g gZ k kZ v vZ w wZ a aZ) := by
  refine ct_ow R_Mod [some (.ref 116), some (.int 3), none] rfl (by decide) rfl (Nat.le_of_ble_eq_true rfl) ?_
  have f0 : fr S_Mod_readLineOfX_3 h h := fr_rf
  have g1 : 0 ≤ sZ ∧ sZ ≤ 160 := inv_at hI sE sK.symm rfl
  have g2 : 0 ≤ pZ ∧ pZ ≤ 160 := inv_at hI pE pK.symm rfl
  have g3 : 0 ≤ gZ ∧ gZ ≤ 160 := inv_at hI gE gK.symm rfl
  refine V_iload_n 1 d_Mod_readLineOf_0 rfl rfl ?_
  refine V_tabIn 107 tc_3 d_Mod_readLineOf_1 (by decide) (by decide) rfl (by decide) ?_
  refine V_aload_n 0 d_Mod_readLineOf_107 rfl rfl ?_
  refine N_callVV [] [] cv_Mod_164 sk_116 rfl d_Mod_readLineOf_108 rfl (Nat.le_of_ble_eq_true rfl) (by decide) (by decide) (c_Mod_readRodX h b T D p0 hI s sZ sE sK p pZ pE pK g gZ gE gK k kZ kE kK v vZ vE vK w wZ wE wK a aZ aE aK (TP_fr f0 (fun _ => rfl) hy0) (by (first | decide +kernel | with_reducible assumption | omega)) ⟨by (first | decide +kernel | with_reducible assumption | omega), by (first | decide +kernel | with_reducible assumption | omega), by (first | decide +kernel | with_reducible assumption | omega), by (first | decide +kernel | with_reducible assumption | omega), by (first | decide +kernel | with_reducible assumption | omega), by (first | decide +kernel | with_reducible assumption | omega), by (first | decide +kernel | with_reducible assumption | omega), by (first | decide +kernel | with_reducible assumption | omega), by (first | decide +kernel | with_reducible assumption | omega), by (first | decide +kernel | with_reducible assumption | omega), by (first | decide +kernel | with_reducible assumption | omega)⟩ hy3) (fun h5 p6 => ?_)
  obtain ⟨hI7, fh5, o9, o9Z, o9E, o9K, o10, o10Z, o10E, o10K, o11, o11Z, o11E, o11K, o12, o12Z, o12E, o12K, o13, o13Z, o13E, o13K, o14, o14Z, o14E, o14K, p6⟩ := p6
  have f8 : fr S_Mod_readLineOfX_3 h h5 := fr_call f0 fh5 rfl
  have g15 : 0 ≤ o9Z ∧ o9Z ≤ 160 := inv_at hI7 o9E o9K.symm rfl
  have g16 : 0 ≤ o10Z ∧ o10Z ≤ 160 := inv_at hI7 o10E o10K.symm rfl
  refine V_goto 152 d_Mod_readLineOf_111 (by decide) ?_
  exact V_vret rfl d_Mod_readLineOf_152 ⟨rfl, ⟨hI7, f8, o9, o9Z, o9E, o9K, o10, o10Z, o10E, o10K, o11, o11Z, o11E, o11K, o12, o12Z, o12E, o12K, o13, o13Z, o13E, o13K, o14, o14Z, o14E, o14K, p6⟩⟩
def S_Mod_readLineOfX_4 : List (Nat × Option Nat) := [(116, some 16), (116, some 17), (116, some 18), (116, some 19), (116, some 20), (116, some 21), (119, none), (120, some 0), (116, some 13)]
abbrev q_Mod_readLineOfX_4 (h : Hp) (b : Int → Int) (T : Nat → Int → Int) (D : Nat → Int) (p0 : Int) (s : Int32) (sZ : Int) (p : Int32) (pZ : Int) (g : Int32) (gZ : Int) (k : Int32) (kZ : Int) (v : Int32) (vZ : Int) (w : Int32) (wZ : Int) (a : Int32) (aZ : Int) (z : Int32) (zZ : Int) (i : Int32) (iZ : Int) : Option Value → Hp → Prop := pVd (fun h' => Inv h' ∧ fr S_Mod_readLineOfX_4 h h' ∧ ∃ (q : Int32) (qZ : Int), q.toInt = qZ ∧ h'.1 116 16 = q ∧ ∃ (f : Int32) (fZ : Int), f.toInt = fZ ∧ h'.1 116 17 = f ∧ ∃ (m : Int32) (mZ : Int), m.toInt = mZ ∧ h'.1 116 18 = m ∧ ∃ (x : Int32) (xZ : Int), x.toInt = xZ ∧ h'.1 116 19 = x ∧ ∃ (u : Int32) (uZ : Int), u.toInt = uZ ∧ h'.1 116 20 = u ∧ ∃ (y : Int32) (yZ : Int), y.toInt = yZ ∧ h'.1 116 21 = y ∧ ((uZ ≠ 0 ∧ x_l1 b T p0 = (uZ, yZ) ∨ uZ = 0 ∧ x_l1 b T p0 = x_sq (x_cS b (x_en b (x_en b p0))) (x_fr b (x_en b (x_en b p0))) (0, x_en b (x_en b (x_en b p0))) ∧ (fZ = x_fr b (x_en b (x_en b p0)) ∧ mZ = x_kd b (x_en b (x_en b p0)) ∧ mZ ≠ 4 ∧ 0 ≤ mZ ∧ mZ ≤ 3 ∧ qZ = x_en b (x_en b (x_en b p0)) ∧ (mZ ≠ 2 ∨ xZ = x_vl b (x_en b (x_en b p0)) ∧ 0 ≤ xZ ∧ xZ ≤ 99) ∧ (x_en b (x_en b p0)) ≤ fZ ∧ fZ ≤ qZ ∧ qZ ≤ sZ ∧ (mZ = 0 ∨ fZ < qZ)) ∧ RM h' (x_upT T 1 (x_vl b p0)) (x_up D (x_vl b p0) (x_vl b (x_en b p0)))) ∧ 0 ≤ qZ ∧ qZ ≤ sZ ∧ 0 ≤ uZ))
set_option maxRecDepth 100000 in
theorem c_Mod_readLineOfX_4 (h : Hp) (b : Int → Int) (T : Nat → Int → Int) (D : Nat → Int) (p0 : Int) (hI : Inv h) (s : Int32) (sZ : Int) (sE : s.toInt = sZ) (sK : h.1 116 15 = s) (p : Int32) (pZ : Int) (pE : p.toInt = pZ) (pK : h.1 116 16 = p) (g : Int32) (gZ : Int) (gE : g.toInt = gZ) (gK : h.1 116 17 = g) (k : Int32) (kZ : Int) (kE : k.toInt = kZ) (kK : h.1 116 18 = k) (v : Int32) (vZ : Int) (vE : v.toInt = vZ) (vK : h.1 116 19 = v) (w : Int32) (wZ : Int) (wE : w.toInt = wZ) (wK : h.1 116 20 = w) (a : Int32) (aZ : Int) (aE : a.toInt = aZ) (aK : h.1 116 21 = a) (z : Int32) (zZ : Int) (zE : z.toInt = zZ) (zK : h.1 120 0 = z) (i : Int32) (iZ : Int) (iE : i.toInt = iZ) (iK : h.1 116 13 = i) (hy0 : TP h 121 sZ b) (hy1 : 0 ≤ pZ ∧ pZ ≤ sZ ∧ wZ = 0) (hy2 : gZ = x_fr b p0 ∧ kZ = x_kd b p0 ∧ kZ ≠ 4 ∧ 0 ≤ kZ ∧ kZ ≤ 3 ∧ pZ = x_en b p0 ∧ (kZ ≠ 2 ∨ vZ = x_vl b p0 ∧ 0 ≤ vZ ∧ vZ ≤ 99) ∧ p0 ≤ gZ ∧ gZ ≤ pZ ∧ pZ ≤ sZ ∧ (kZ = 0 ∨ gZ < pZ)) (hy3 : RM h T D) : Ct y_Mod_readLineOf b_Mod_readLineOf 3 none 4 94 [.ref 116, .int 4] h (q_Mod_readLineOfX_4 h b T D p0 s sZ p pZ g gZ k kZ v vZ w wZ a aZ z zZ i iZ) := by
  refine ct_ow R_Mod [some (.ref 116), some (.int 4), none] rfl (by decide) rfl (Nat.le_of_ble_eq_true rfl) ?_
  have f0 : fr S_Mod_readLineOfX_4 h h := fr_rf
  have g1 : 0 ≤ sZ ∧ sZ ≤ 160 := inv_at hI sE sK.symm rfl
  have g2 : 0 ≤ pZ ∧ pZ ≤ 160 := inv_at hI pE pK.symm rfl
  have g3 : 0 ≤ gZ ∧ gZ ≤ 160 := inv_at hI gE gK.symm rfl
  refine V_iload_n 1 d_Mod_readLineOf_0 rfl rfl ?_
  refine V_tabIn 147 tc_4 d_Mod_readLineOf_1 (by decide) (by decide) rfl (by decide) ?_
  refine V_aload_n 0 d_Mod_readLineOf_147 rfl rfl ?_
  refine V_iload_n 1 d_Mod_readLineOf_148 rfl rfl ?_
  refine N_callVV [.int 4] [] cv_Mod_170 sk_116 rfl d_Mod_readLineOf_149 rfl (Nat.le_of_ble_eq_true rfl) (by decide) (by decide) (c_Mod_readCellOfX_4 h b T D p0 hI s sZ sE sK p pZ pE pK g gZ gE gK k kZ kE kK v vZ vE vK w wZ wE wK a aZ aE aK z zZ zE zK i iZ iE iK (TP_fr f0 (fun _ => rfl) hy0) (by (first | decide +kernel | with_reducible assumption | omega)) ⟨by (first | decide +kernel | with_reducible assumption | omega), by (first | decide +kernel | with_reducible assumption | omega), by (first | decide +kernel | with_reducible assumption | omega), by (first | decide +kernel | with_reducible assumption | omega), by (first | decide +kernel | with_reducible assumption | omega), by (first | decide +kernel | with_reducible assumption | omega), by (first | decide +kernel | with_reducible assumption | omega), by (first | decide +kernel | with_reducible assumption | omega), by (first | decide +kernel | with_reducible assumption | omega), by (first | decide +kernel | with_reducible assumption | omega), by (first | decide +kernel | with_reducible assumption | omega)⟩ hy3) (fun h5 p6 => ?_)
  obtain ⟨hI7, fh5, o9, o9Z, o9E, o9K, o10, o10Z, o10E, o10K, o11, o11Z, o11E, o11K, o12, o12Z, o12E, o12K, o13, o13Z, o13E, o13K, o14, o14Z, o14E, o14K, p6⟩ := p6
  have f8 : fr S_Mod_readLineOfX_4 h h5 := fr_call f0 fh5 rfl
  have g15 : 0 ≤ o9Z ∧ o9Z ≤ 160 := inv_at hI7 o9E o9K.symm rfl
  have g16 : 0 ≤ o10Z ∧ o10Z ≤ 160 := inv_at hI7 o10E o10K.symm rfl
  exact V_vret rfl d_Mod_readLineOf_152 ⟨rfl, ⟨hI7, f8, o9, o9Z, o9E, o9K, o10, o10Z, o10E, o10K, o11, o11Z, o11E, o11K, o12, o12Z, o12E, o12K, o13, o13Z, o13E, o13K, o14, o14Z, o14E, o14K, p6⟩⟩
def S_Mod_readLineOfX_5 : List (Nat × Option Nat) := [(116, some 16), (116, some 17), (116, some 18), (116, some 19), (116, some 20), (116, some 21), (119, none), (120, some 1), (116, some 13)]
abbrev q_Mod_readLineOfX_5 (h : Hp) (b : Int → Int) (T : Nat → Int → Int) (D : Nat → Int) (p0 : Int) (s : Int32) (sZ : Int) (p : Int32) (pZ : Int) (g : Int32) (gZ : Int) (k : Int32) (kZ : Int) (v : Int32) (vZ : Int) (w : Int32) (wZ : Int) (a : Int32) (aZ : Int) (z : Int32) (zZ : Int) (i : Int32) (iZ : Int) : Option Value → Hp → Prop := pVd (fun h' => Inv h' ∧ fr S_Mod_readLineOfX_5 h h' ∧ ∃ (q : Int32) (qZ : Int), q.toInt = qZ ∧ h'.1 116 16 = q ∧ ∃ (f : Int32) (fZ : Int), f.toInt = fZ ∧ h'.1 116 17 = f ∧ ∃ (m : Int32) (mZ : Int), m.toInt = mZ ∧ h'.1 116 18 = m ∧ ∃ (x : Int32) (xZ : Int), x.toInt = xZ ∧ h'.1 116 19 = x ∧ ∃ (u : Int32) (uZ : Int), u.toInt = uZ ∧ h'.1 116 20 = u ∧ ∃ (y : Int32) (yZ : Int), y.toInt = yZ ∧ h'.1 116 21 = y ∧ ((uZ ≠ 0 ∧ x_l2 b T p0 = (uZ, yZ) ∨ uZ = 0 ∧ x_l2 b T p0 = x_sq (x_cS b (x_en b p0)) (x_fr b (x_en b p0)) (0, x_en b (x_en b p0)) ∧ (fZ = x_fr b (x_en b p0) ∧ mZ = x_kd b (x_en b p0) ∧ mZ ≠ 4 ∧ 0 ≤ mZ ∧ mZ ≤ 3 ∧ qZ = x_en b (x_en b p0) ∧ (mZ ≠ 2 ∨ xZ = x_vl b (x_en b p0) ∧ 0 ≤ xZ ∧ xZ ≤ 99) ∧ (x_en b p0) ≤ fZ ∧ fZ ≤ qZ ∧ qZ ≤ sZ ∧ (mZ = 0 ∨ fZ < qZ)) ∧ RM h' (x_upT T 2 (x_vl b p0)) (x_up D (16 + (x_vl b p0)) 1)) ∧ 0 ≤ qZ ∧ qZ ≤ sZ ∧ 0 ≤ uZ))
set_option maxRecDepth 100000 in
theorem c_Mod_readLineOfX_5 (h : Hp) (b : Int → Int) (T : Nat → Int → Int) (D : Nat → Int) (p0 : Int) (hI : Inv h) (s : Int32) (sZ : Int) (sE : s.toInt = sZ) (sK : h.1 116 15 = s) (p : Int32) (pZ : Int) (pE : p.toInt = pZ) (pK : h.1 116 16 = p) (g : Int32) (gZ : Int) (gE : g.toInt = gZ) (gK : h.1 116 17 = g) (k : Int32) (kZ : Int) (kE : k.toInt = kZ) (kK : h.1 116 18 = k) (v : Int32) (vZ : Int) (vE : v.toInt = vZ) (vK : h.1 116 19 = v) (w : Int32) (wZ : Int) (wE : w.toInt = wZ) (wK : h.1 116 20 = w) (a : Int32) (aZ : Int) (aE : a.toInt = aZ) (aK : h.1 116 21 = a) (z : Int32) (zZ : Int) (zE : z.toInt = zZ) (zK : h.1 120 1 = z) (i : Int32) (iZ : Int) (iE : i.toInt = iZ) (iK : h.1 116 13 = i) (hy0 : TP h 121 sZ b) (hy1 : 0 ≤ pZ ∧ pZ ≤ sZ ∧ wZ = 0) (hy2 : gZ = x_fr b p0 ∧ kZ = x_kd b p0 ∧ kZ ≠ 4 ∧ 0 ≤ kZ ∧ kZ ≤ 3 ∧ pZ = x_en b p0 ∧ (kZ ≠ 2 ∨ vZ = x_vl b p0 ∧ 0 ≤ vZ ∧ vZ ≤ 99) ∧ p0 ≤ gZ ∧ gZ ≤ pZ ∧ pZ ≤ sZ ∧ (kZ = 0 ∨ gZ < pZ)) (hy3 : RM h T D) : Ct y_Mod_readLineOf b_Mod_readLineOf 3 none 4 94 [.ref 116, .int 5] h (q_Mod_readLineOfX_5 h b T D p0 s sZ p pZ g gZ k kZ v vZ w wZ a aZ z zZ i iZ) := by
  refine ct_ow R_Mod [some (.ref 116), some (.int 5), none] rfl (by decide) rfl (Nat.le_of_ble_eq_true rfl) ?_
  have f0 : fr S_Mod_readLineOfX_5 h h := fr_rf
  have g1 : 0 ≤ sZ ∧ sZ ≤ 160 := inv_at hI sE sK.symm rfl
  have g2 : 0 ≤ pZ ∧ pZ ≤ 160 := inv_at hI pE pK.symm rfl
  have g3 : 0 ≤ gZ ∧ gZ ≤ 160 := inv_at hI gE gK.symm rfl
  refine V_iload_n 1 d_Mod_readLineOf_0 rfl rfl ?_
  refine V_tabIn 147 tc_5 d_Mod_readLineOf_1 (by decide) (by decide) rfl (by decide) ?_
  refine V_aload_n 0 d_Mod_readLineOf_147 rfl rfl ?_
  refine V_iload_n 1 d_Mod_readLineOf_148 rfl rfl ?_
  refine N_callVV [.int 5] [] cv_Mod_170 sk_116 rfl d_Mod_readLineOf_149 rfl (Nat.le_of_ble_eq_true rfl) (by decide) (by decide) (c_Mod_readCellOfX_5 h b T D p0 hI s sZ sE sK p pZ pE pK g gZ gE gK k kZ kE kK v vZ vE vK w wZ wE wK a aZ aE aK z zZ zE zK i iZ iE iK (TP_fr f0 (fun _ => rfl) hy0) (by (first | decide +kernel | with_reducible assumption | omega)) ⟨by (first | decide +kernel | with_reducible assumption | omega), by (first | decide +kernel | with_reducible assumption | omega), by (first | decide +kernel | with_reducible assumption | omega), by (first | decide +kernel | with_reducible assumption | omega), by (first | decide +kernel | with_reducible assumption | omega), by (first | decide +kernel | with_reducible assumption | omega), by (first | decide +kernel | with_reducible assumption | omega), by (first | decide +kernel | with_reducible assumption | omega), by (first | decide +kernel | with_reducible assumption | omega), by (first | decide +kernel | with_reducible assumption | omega), by (first | decide +kernel | with_reducible assumption | omega)⟩ hy3) (fun h5 p6 => ?_)
  obtain ⟨hI7, fh5, o9, o9Z, o9E, o9K, o10, o10Z, o10E, o10K, o11, o11Z, o11E, o11K, o12, o12Z, o12E, o12K, o13, o13Z, o13E, o13K, o14, o14Z, o14E, o14K, p6⟩ := p6
  have f8 : fr S_Mod_readLineOfX_5 h h5 := fr_call f0 fh5 rfl
  have g15 : 0 ≤ o9Z ∧ o9Z ≤ 160 := inv_at hI7 o9E o9K.symm rfl
  have g16 : 0 ≤ o10Z ∧ o10Z ≤ 160 := inv_at hI7 o10E o10K.symm rfl
  exact V_vret rfl d_Mod_readLineOf_152 ⟨rfl, ⟨hI7, f8, o9, o9Z, o9E, o9K, o10, o10Z, o10E, o10K, o11, o11Z, o11E, o11K, o12, o12Z, o12E, o12K, o13, o13Z, o13E, o13K, o14, o14Z, o14E, o14K, p6⟩⟩
def S_Mod_readLineOfX_6 : List (Nat × Option Nat) := [(116, some 16), (116, some 17), (116, some 18), (116, some 19), (116, some 20), (116, some 21), (119, none), (120, some 2), (116, some 13)]
abbrev q_Mod_readLineOfX_6 (h : Hp) (b : Int → Int) (T : Nat → Int → Int) (D : Nat → Int) (p0 : Int) (s : Int32) (sZ : Int) (p : Int32) (pZ : Int) (g : Int32) (gZ : Int) (k : Int32) (kZ : Int) (v : Int32) (vZ : Int) (w : Int32) (wZ : Int) (a : Int32) (aZ : Int) (z : Int32) (zZ : Int) (i : Int32) (iZ : Int) : Option Value → Hp → Prop := pVd (fun h' => Inv h' ∧ fr S_Mod_readLineOfX_6 h h' ∧ ∃ (q : Int32) (qZ : Int), q.toInt = qZ ∧ h'.1 116 16 = q ∧ ∃ (f : Int32) (fZ : Int), f.toInt = fZ ∧ h'.1 116 17 = f ∧ ∃ (m : Int32) (mZ : Int), m.toInt = mZ ∧ h'.1 116 18 = m ∧ ∃ (x : Int32) (xZ : Int), x.toInt = xZ ∧ h'.1 116 19 = x ∧ ∃ (u : Int32) (uZ : Int), u.toInt = uZ ∧ h'.1 116 20 = u ∧ ∃ (y : Int32) (yZ : Int), y.toInt = yZ ∧ h'.1 116 21 = y ∧ ((uZ ≠ 0 ∧ x_l3 b T p0 = (uZ, yZ) ∨ uZ = 0 ∧ x_l3 b T p0 = x_sq (x_cS b (x_en b (x_en b p0))) (x_fr b (x_en b (x_en b p0))) (0, x_en b (x_en b (x_en b p0))) ∧ (fZ = x_fr b (x_en b (x_en b p0)) ∧ mZ = x_kd b (x_en b (x_en b p0)) ∧ mZ ≠ 4 ∧ 0 ≤ mZ ∧ mZ ≤ 3 ∧ qZ = x_en b (x_en b (x_en b p0)) ∧ (mZ ≠ 2 ∨ xZ = x_vl b (x_en b (x_en b p0)) ∧ 0 ≤ xZ ∧ xZ ≤ 99) ∧ (x_en b (x_en b p0)) ≤ fZ ∧ fZ ≤ qZ ∧ qZ ≤ sZ ∧ (mZ = 0 ∨ fZ < qZ)) ∧ RM h' (x_upT T 3 (x_vl b p0)) (x_up D (32 + (x_vl b p0)) (x_vl b (x_en b p0)))) ∧ 0 ≤ qZ ∧ qZ ≤ sZ ∧ 0 ≤ uZ))
set_option maxRecDepth 100000 in
theorem c_Mod_readLineOfX_6 (h : Hp) (b : Int → Int) (T : Nat → Int → Int) (D : Nat → Int) (p0 : Int) (hI : Inv h) (s : Int32) (sZ : Int) (sE : s.toInt = sZ) (sK : h.1 116 15 = s) (p : Int32) (pZ : Int) (pE : p.toInt = pZ) (pK : h.1 116 16 = p) (g : Int32) (gZ : Int) (gE : g.toInt = gZ) (gK : h.1 116 17 = g) (k : Int32) (kZ : Int) (kE : k.toInt = kZ) (kK : h.1 116 18 = k) (v : Int32) (vZ : Int) (vE : v.toInt = vZ) (vK : h.1 116 19 = v) (w : Int32) (wZ : Int) (wE : w.toInt = wZ) (wK : h.1 116 20 = w) (a : Int32) (aZ : Int) (aE : a.toInt = aZ) (aK : h.1 116 21 = a) (z : Int32) (zZ : Int) (zE : z.toInt = zZ) (zK : h.1 120 2 = z) (i : Int32) (iZ : Int) (iE : i.toInt = iZ) (iK : h.1 116 13 = i) (hy0 : TP h 121 sZ b) (hy1 : 0 ≤ pZ ∧ pZ ≤ sZ ∧ wZ = 0) (hy2 : gZ = x_fr b p0 ∧ kZ = x_kd b p0 ∧ kZ ≠ 4 ∧ 0 ≤ kZ ∧ kZ ≤ 3 ∧ pZ = x_en b p0 ∧ (kZ ≠ 2 ∨ vZ = x_vl b p0 ∧ 0 ≤ vZ ∧ vZ ≤ 99) ∧ p0 ≤ gZ ∧ gZ ≤ pZ ∧ pZ ≤ sZ ∧ (kZ = 0 ∨ gZ < pZ)) (hy3 : RM h T D) : Ct y_Mod_readLineOf b_Mod_readLineOf 3 none 4 94 [.ref 116, .int 6] h (q_Mod_readLineOfX_6 h b T D p0 s sZ p pZ g gZ k kZ v vZ w wZ a aZ z zZ i iZ) := by
  refine ct_ow R_Mod [some (.ref 116), some (.int 6), none] rfl (by decide) rfl (Nat.le_of_ble_eq_true rfl) ?_
  have f0 : fr S_Mod_readLineOfX_6 h h := fr_rf
  have g1 : 0 ≤ sZ ∧ sZ ≤ 160 := inv_at hI sE sK.symm rfl
  have g2 : 0 ≤ pZ ∧ pZ ≤ 160 := inv_at hI pE pK.symm rfl
  have g3 : 0 ≤ gZ ∧ gZ ≤ 160 := inv_at hI gE gK.symm rfl
  refine V_iload_n 1 d_Mod_readLineOf_0 rfl rfl ?_
  refine V_tabIn 147 tc_6 d_Mod_readLineOf_1 (by decide) (by decide) rfl (by decide) ?_
  refine V_aload_n 0 d_Mod_readLineOf_147 rfl rfl ?_
  refine V_iload_n 1 d_Mod_readLineOf_148 rfl rfl ?_
  refine N_callVV [.int 6] [] cv_Mod_170 sk_116 rfl d_Mod_readLineOf_149 rfl (Nat.le_of_ble_eq_true rfl) (by decide) (by decide) (c_Mod_readCellOfX_6 h b T D p0 hI s sZ sE sK p pZ pE pK g gZ gE gK k kZ kE kK v vZ vE vK w wZ wE wK a aZ aE aK z zZ zE zK i iZ iE iK (TP_fr f0 (fun _ => rfl) hy0) (by (first | decide +kernel | with_reducible assumption | omega)) ⟨by (first | decide +kernel | with_reducible assumption | omega), by (first | decide +kernel | with_reducible assumption | omega), by (first | decide +kernel | with_reducible assumption | omega), by (first | decide +kernel | with_reducible assumption | omega), by (first | decide +kernel | with_reducible assumption | omega), by (first | decide +kernel | with_reducible assumption | omega), by (first | decide +kernel | with_reducible assumption | omega), by (first | decide +kernel | with_reducible assumption | omega), by (first | decide +kernel | with_reducible assumption | omega), by (first | decide +kernel | with_reducible assumption | omega), by (first | decide +kernel | with_reducible assumption | omega)⟩ hy3) (fun h5 p6 => ?_)
  obtain ⟨hI7, fh5, o9, o9Z, o9E, o9K, o10, o10Z, o10E, o10K, o11, o11Z, o11E, o11K, o12, o12Z, o12E, o12K, o13, o13Z, o13E, o13K, o14, o14Z, o14E, o14K, p6⟩ := p6
  have f8 : fr S_Mod_readLineOfX_6 h h5 := fr_call f0 fh5 rfl
  have g15 : 0 ≤ o9Z ∧ o9Z ≤ 160 := inv_at hI7 o9E o9K.symm rfl
  have g16 : 0 ≤ o10Z ∧ o10Z ≤ 160 := inv_at hI7 o10E o10K.symm rfl
  exact V_vret rfl d_Mod_readLineOf_152 ⟨rfl, ⟨hI7, f8, o9, o9Z, o9E, o9K, o10, o10Z, o10E, o10K, o11, o11Z, o11E, o11K, o12, o12Z, o12E, o12K, o13, o13Z, o13E, o13K, o14, o14Z, o14E, o14K, p6⟩⟩
def S_Mod_readLineOfX_7 : List (Nat × Option Nat) := [(116, some 16), (116, some 17), (116, some 18), (116, some 19), (116, some 20), (116, some 21), (119, none), (120, some 3), (116, some 13)]
abbrev q_Mod_readLineOfX_7 (h : Hp) (b : Int → Int) (T : Nat → Int → Int) (D : Nat → Int) (p0 : Int) (s : Int32) (sZ : Int) (p : Int32) (pZ : Int) (g : Int32) (gZ : Int) (k : Int32) (kZ : Int) (v : Int32) (vZ : Int) (w : Int32) (wZ : Int) (a : Int32) (aZ : Int) (z : Int32) (zZ : Int) (i : Int32) (iZ : Int) : Option Value → Hp → Prop := pVd (fun h' => Inv h' ∧ fr S_Mod_readLineOfX_7 h h' ∧ ∃ (q : Int32) (qZ : Int), q.toInt = qZ ∧ h'.1 116 16 = q ∧ ∃ (f : Int32) (fZ : Int), f.toInt = fZ ∧ h'.1 116 17 = f ∧ ∃ (m : Int32) (mZ : Int), m.toInt = mZ ∧ h'.1 116 18 = m ∧ ∃ (x : Int32) (xZ : Int), x.toInt = xZ ∧ h'.1 116 19 = x ∧ ∃ (u : Int32) (uZ : Int), u.toInt = uZ ∧ h'.1 116 20 = u ∧ ∃ (y : Int32) (yZ : Int), y.toInt = yZ ∧ h'.1 116 21 = y ∧ ((uZ ≠ 0 ∧ x_l4 b T p0 = (uZ, yZ) ∨ uZ = 0 ∧ x_l4 b T p0 = x_sq (x_cS b (x_en b (x_en b p0))) (x_fr b (x_en b (x_en b p0))) (0, x_en b (x_en b (x_en b p0))) ∧ (fZ = x_fr b (x_en b (x_en b p0)) ∧ mZ = x_kd b (x_en b (x_en b p0)) ∧ mZ ≠ 4 ∧ 0 ≤ mZ ∧ mZ ≤ 3 ∧ qZ = x_en b (x_en b (x_en b p0)) ∧ (mZ ≠ 2 ∨ xZ = x_vl b (x_en b (x_en b p0)) ∧ 0 ≤ xZ ∧ xZ ≤ 99) ∧ (x_en b (x_en b p0)) ≤ fZ ∧ fZ ≤ qZ ∧ qZ ≤ sZ ∧ (mZ = 0 ∨ fZ < qZ)) ∧ RM h' (x_upT T 4 (x_vl b p0)) (x_up D (48 + (x_vl b p0)) (x_vl b (x_en b p0)))) ∧ 0 ≤ qZ ∧ qZ ≤ sZ ∧ 0 ≤ uZ))
set_option maxRecDepth 100000 in
theorem c_Mod_readLineOfX_7 (h : Hp) (b : Int → Int) (T : Nat → Int → Int) (D : Nat → Int) (p0 : Int) (hI : Inv h) (s : Int32) (sZ : Int) (sE : s.toInt = sZ) (sK : h.1 116 15 = s) (p : Int32) (pZ : Int) (pE : p.toInt = pZ) (pK : h.1 116 16 = p) (g : Int32) (gZ : Int) (gE : g.toInt = gZ) (gK : h.1 116 17 = g) (k : Int32) (kZ : Int) (kE : k.toInt = kZ) (kK : h.1 116 18 = k) (v : Int32) (vZ : Int) (vE : v.toInt = vZ) (vK : h.1 116 19 = v) (w : Int32) (wZ : Int) (wE : w.toInt = wZ) (wK : h.1 116 20 = w) (a : Int32) (aZ : Int) (aE : a.toInt = aZ) (aK : h.1 116 21 = a) (z : Int32) (zZ : Int) (zE : z.toInt = zZ) (zK : h.1 120 3 = z) (i : Int32) (iZ : Int) (iE : i.toInt = iZ) (iK : h.1 116 13 = i) (hy0 : TP h 121 sZ b) (hy1 : 0 ≤ pZ ∧ pZ ≤ sZ ∧ wZ = 0) (hy2 : gZ = x_fr b p0 ∧ kZ = x_kd b p0 ∧ kZ ≠ 4 ∧ 0 ≤ kZ ∧ kZ ≤ 3 ∧ pZ = x_en b p0 ∧ (kZ ≠ 2 ∨ vZ = x_vl b p0 ∧ 0 ≤ vZ ∧ vZ ≤ 99) ∧ p0 ≤ gZ ∧ gZ ≤ pZ ∧ pZ ≤ sZ ∧ (kZ = 0 ∨ gZ < pZ)) (hy3 : RM h T D) : Ct y_Mod_readLineOf b_Mod_readLineOf 3 none 4 94 [.ref 116, .int 7] h (q_Mod_readLineOfX_7 h b T D p0 s sZ p pZ g gZ k kZ v vZ w wZ a aZ z zZ i iZ) := by
  refine ct_ow R_Mod [some (.ref 116), some (.int 7), none] rfl (by decide) rfl (Nat.le_of_ble_eq_true rfl) ?_
  have f0 : fr S_Mod_readLineOfX_7 h h := fr_rf
  have g1 : 0 ≤ sZ ∧ sZ ≤ 160 := inv_at hI sE sK.symm rfl
  have g2 : 0 ≤ pZ ∧ pZ ≤ 160 := inv_at hI pE pK.symm rfl
  have g3 : 0 ≤ gZ ∧ gZ ≤ 160 := inv_at hI gE gK.symm rfl
  refine V_iload_n 1 d_Mod_readLineOf_0 rfl rfl ?_
  refine V_tabIn 147 tc_7 d_Mod_readLineOf_1 (by decide) (by decide) rfl (by decide) ?_
  refine V_aload_n 0 d_Mod_readLineOf_147 rfl rfl ?_
  refine V_iload_n 1 d_Mod_readLineOf_148 rfl rfl ?_
  refine N_callVV [.int 7] [] cv_Mod_170 sk_116 rfl d_Mod_readLineOf_149 rfl (Nat.le_of_ble_eq_true rfl) (by decide) (by decide) (c_Mod_readCellOfX_7 h b T D p0 hI s sZ sE sK p pZ pE pK g gZ gE gK k kZ kE kK v vZ vE vK w wZ wE wK a aZ aE aK z zZ zE zK i iZ iE iK (TP_fr f0 (fun _ => rfl) hy0) (by (first | decide +kernel | with_reducible assumption | omega)) ⟨by (first | decide +kernel | with_reducible assumption | omega), by (first | decide +kernel | with_reducible assumption | omega), by (first | decide +kernel | with_reducible assumption | omega), by (first | decide +kernel | with_reducible assumption | omega), by (first | decide +kernel | with_reducible assumption | omega), by (first | decide +kernel | with_reducible assumption | omega), by (first | decide +kernel | with_reducible assumption | omega), by (first | decide +kernel | with_reducible assumption | omega), by (first | decide +kernel | with_reducible assumption | omega), by (first | decide +kernel | with_reducible assumption | omega), by (first | decide +kernel | with_reducible assumption | omega)⟩ hy3) (fun h5 p6 => ?_)
  obtain ⟨hI7, fh5, o9, o9Z, o9E, o9K, o10, o10Z, o10E, o10K, o11, o11Z, o11E, o11K, o12, o12Z, o12E, o12K, o13, o13Z, o13E, o13K, o14, o14Z, o14E, o14K, p6⟩ := p6
  have f8 : fr S_Mod_readLineOfX_7 h h5 := fr_call f0 fh5 rfl
  have g15 : 0 ≤ o9Z ∧ o9Z ≤ 160 := inv_at hI7 o9E o9K.symm rfl
  have g16 : 0 ≤ o10Z ∧ o10Z ≤ 160 := inv_at hI7 o10E o10K.symm rfl
  exact V_vret rfl d_Mod_readLineOf_152 ⟨rfl, ⟨hI7, f8, o9, o9Z, o9E, o9K, o10, o10Z, o10E, o10K, o11, o11Z, o11E, o11K, o12, o12Z, o12E, o12K, o13, o13Z, o13E, o13K, o14, o14Z, o14E, o14K, p6⟩⟩
def S_Mod_readLineOfX_8 : List (Nat × Option Nat) := [(116, some 16), (116, some 17), (116, some 18), (116, some 19), (116, some 20), (116, some 21), (119, none), (120, some 4), (116, some 13)]
abbrev q_Mod_readLineOfX_8 (h : Hp) (b : Int → Int) (T : Nat → Int → Int) (D : Nat → Int) (p0 : Int) (s : Int32) (sZ : Int) (p : Int32) (pZ : Int) (g : Int32) (gZ : Int) (k : Int32) (kZ : Int) (v : Int32) (vZ : Int) (w : Int32) (wZ : Int) (a : Int32) (aZ : Int) (z : Int32) (zZ : Int) (i : Int32) (iZ : Int) : Option Value → Hp → Prop := pVd (fun h' => Inv h' ∧ fr S_Mod_readLineOfX_8 h h' ∧ ∃ (q : Int32) (qZ : Int), q.toInt = qZ ∧ h'.1 116 16 = q ∧ ∃ (f : Int32) (fZ : Int), f.toInt = fZ ∧ h'.1 116 17 = f ∧ ∃ (m : Int32) (mZ : Int), m.toInt = mZ ∧ h'.1 116 18 = m ∧ ∃ (x : Int32) (xZ : Int), x.toInt = xZ ∧ h'.1 116 19 = x ∧ ∃ (u : Int32) (uZ : Int), u.toInt = uZ ∧ h'.1 116 20 = u ∧ ∃ (y : Int32) (yZ : Int), y.toInt = yZ ∧ h'.1 116 21 = y ∧ ((uZ ≠ 0 ∧ x_l5 b T p0 = (uZ, yZ) ∨ uZ = 0 ∧ x_l5 b T p0 = x_sq (x_cS b (x_en b (x_en b p0))) (x_fr b (x_en b (x_en b p0))) (0, x_en b (x_en b (x_en b p0))) ∧ (fZ = x_fr b (x_en b (x_en b p0)) ∧ mZ = x_kd b (x_en b (x_en b p0)) ∧ mZ ≠ 4 ∧ 0 ≤ mZ ∧ mZ ≤ 3 ∧ qZ = x_en b (x_en b (x_en b p0)) ∧ (mZ ≠ 2 ∨ xZ = x_vl b (x_en b (x_en b p0)) ∧ 0 ≤ xZ ∧ xZ ≤ 99) ∧ (x_en b (x_en b p0)) ≤ fZ ∧ fZ ≤ qZ ∧ qZ ≤ sZ ∧ (mZ = 0 ∨ fZ < qZ)) ∧ RM h' (x_upT T 5 (x_vl b p0)) (x_up D (80 + (x_vl b p0)) (x_vl b (x_en b p0)))) ∧ 0 ≤ qZ ∧ qZ ≤ sZ ∧ 0 ≤ uZ))
set_option maxRecDepth 100000 in
theorem c_Mod_readLineOfX_8 (h : Hp) (b : Int → Int) (T : Nat → Int → Int) (D : Nat → Int) (p0 : Int) (hI : Inv h) (s : Int32) (sZ : Int) (sE : s.toInt = sZ) (sK : h.1 116 15 = s) (p : Int32) (pZ : Int) (pE : p.toInt = pZ) (pK : h.1 116 16 = p) (g : Int32) (gZ : Int) (gE : g.toInt = gZ) (gK : h.1 116 17 = g) (k : Int32) (kZ : Int) (kE : k.toInt = kZ) (kK : h.1 116 18 = k) (v : Int32) (vZ : Int) (vE : v.toInt = vZ) (vK : h.1 116 19 = v) (w : Int32) (wZ : Int) (wE : w.toInt = wZ) (wK : h.1 116 20 = w) (a : Int32) (aZ : Int) (aE : a.toInt = aZ) (aK : h.1 116 21 = a) (z : Int32) (zZ : Int) (zE : z.toInt = zZ) (zK : h.1 120 4 = z) (i : Int32) (iZ : Int) (iE : i.toInt = iZ) (iK : h.1 116 13 = i) (hy0 : TP h 121 sZ b) (hy1 : 0 ≤ pZ ∧ pZ ≤ sZ ∧ wZ = 0) (hy2 : gZ = x_fr b p0 ∧ kZ = x_kd b p0 ∧ kZ ≠ 4 ∧ 0 ≤ kZ ∧ kZ ≤ 3 ∧ pZ = x_en b p0 ∧ (kZ ≠ 2 ∨ vZ = x_vl b p0 ∧ 0 ≤ vZ ∧ vZ ≤ 99) ∧ p0 ≤ gZ ∧ gZ ≤ pZ ∧ pZ ≤ sZ ∧ (kZ = 0 ∨ gZ < pZ)) (hy3 : RM h T D) : Ct y_Mod_readLineOf b_Mod_readLineOf 3 none 3 70 [.ref 116, .int 8] h (q_Mod_readLineOfX_8 h b T D p0 s sZ p pZ g gZ k kZ v vZ w wZ a aZ z zZ i iZ) := by
  refine ct_ow R_Mod [some (.ref 116), some (.int 8), none] rfl (by decide) rfl (Nat.le_of_ble_eq_true rfl) ?_
  have f0 : fr S_Mod_readLineOfX_8 h h := fr_rf
  have g1 : 0 ≤ sZ ∧ sZ ≤ 160 := inv_at hI sE sK.symm rfl
  have g2 : 0 ≤ pZ ∧ pZ ≤ 160 := inv_at hI pE pK.symm rfl
  have g3 : 0 ≤ gZ ∧ gZ ≤ 160 := inv_at hI gE gK.symm rfl
  refine V_iload_n 1 d_Mod_readLineOf_0 rfl rfl ?_
  refine V_tabIn 114 tc_8 d_Mod_readLineOf_1 (by decide) (by decide) rfl (by decide) ?_
  refine V_aload_n 0 d_Mod_readLineOf_114 rfl rfl ?_
  refine V_iload_n 1 d_Mod_readLineOf_115 rfl rfl ?_
  refine V_iconst 3 d_Mod_readLineOf_116 (by decide) ?_
  refine N_callVI [.int 8, .int 3] [] cv_Mod_161 sk_116 rfl d_Mod_readLineOf_117 rfl (Nat.le_of_ble_eq_true rfl) (by decide) (by decide) (c_Mod_readFreshX_8 h b T D p0 hI s sZ sE sK p pZ pE pK g gZ gE gK k kZ kE kK v vZ vE vK w wZ wE wK a aZ aE aK z zZ zE zK i iZ iE iK (TP_fr f0 (fun _ => rfl) hy0) (by (first | decide +kernel | with_reducible assumption | omega)) ⟨by (first | decide +kernel | with_reducible assumption | omega), by (first | decide +kernel | with_reducible assumption | omega), by (first | decide +kernel | with_reducible assumption | omega), by (first | decide +kernel | with_reducible assumption | omega), by (first | decide +kernel | with_reducible assumption | omega), by (first | decide +kernel | with_reducible assumption | omega), by (first | decide +kernel | with_reducible assumption | omega), by (first | decide +kernel | with_reducible assumption | omega), by (first | decide +kernel | with_reducible assumption | omega), by (first | decide +kernel | with_reducible assumption | omega), by (first | decide +kernel | with_reducible assumption | omega)⟩ hy3) (fun z4 h5 z4Z z4E p6 => ?_)
  obtain ⟨hI7, fh5, o9, o9Z, o9E, o9K, o10, o10Z, o10E, o10K, o11, o11Z, o11E, o11K, o12, o12Z, o12E, o12K, o13, o13Z, o13E, o13K, o14, o14Z, o14E, o14K, p6⟩ := p6
  have f8 : fr S_Mod_readLineOfX_8 h h5 := fr_call f0 fh5 rfl
  have g15 : 0 ≤ o9Z ∧ o9Z ≤ 160 := inv_at hI7 o9E o9K.symm rfl
  have g16 : 0 ≤ o10Z ∧ o10Z ≤ 160 := inv_at hI7 o10E o10K.symm rfl
  refine V_istore_n 2 [some (.ref 116), some (.int 8), some (.int z4)] d_Mod_readLineOf_120 rfl (by decide) rfl rfl ?_
  rcases (dj4 _ _ _ : o13Z ≠ 0 ∧ x_cN b p0 0 3 ≠ 0 ∨ o13Z ≠ 0 ∧ x_cN b p0 0 3 = 0 ∧ x_c4 (T 5 (x_vl b p0)) ≠ 0 ∨ o13Z ≠ 0 ∧ x_cN b p0 0 3 = 0 ∧ x_c4 (T 5 (x_vl b p0)) = 0 ∨ o13Z = 0) with c17 | c17 | c17 | c17
  ·
    replace p6 := And.intro (p6.1.resolve_right (fun q => by (first | decide +kernel | with_reducible assumption | omega))) p6.2
    have g18 := x_cN_s b p0 0 3
    refine V_aload_n 0 d_Mod_readLineOf_121 rfl rfl ?_
    refine V_getR fa_Mod_17 sk_116 rfl d_Mod_readLineOf_122 ?_
    refine V_bipush 80 d_Mod_readLineOf_125 (by decide) ?_
    refine V_iload_n 2 d_Mod_readLineOf_127 rfl rfl ?_
    refine V_iadd tc_80 z4E (by (first | decide +kernel | with_reducible assumption | omega)) d_Mod_readLineOf_128 (fun z19 z19e z19E => ?_)
    refine V_aload_n 0 d_Mod_readLineOf_129 rfl rfl ?_
    refine V_iconst 0 d_Mod_readLineOf_130 (by decide) ?_
    refine V_bipush 99 d_Mod_readLineOf_131 (by decide) ?_
    refine N_callVI [.int 0, .int 99] [.int z19, .ref 119] cv_Mod_158 sk_116 rfl d_Mod_readLineOf_133 rfl (Nat.le_of_ble_eq_true rfl) (by decide) (by decide) (c_Mod_readNumberX h5 b (x_en b p0) hI7 0 0 tc_0 99 99 tc_99 s sZ sE (kn_call fh5 sK rfl) o9 o9Z o9E o9K o10 o10Z o10E o10K o11 o11Z o11E o11K o12 o12Z o12E o12K o13 o13Z o13E o13K o14 o14Z o14E o14K (TP_fr f8 (fun _ => rfl) hy0) (by (first | decide +kernel | with_reducible assumption | omega)) (Or.inl (by (first | decide +kernel | with_reducible assumption | omega)))) (fun z20 h21 z20Z z20E p22 => ?_)
    obtain ⟨hI23, fh21, o25, o25Z, o25E, o25K, o26, o26Z, o26E, o26K, o27, o27Z, o27E, o27K, o28, o28Z, o28E, o28K, o29, o29Z, o29E, o29K, o30, o30Z, o30E, o30K, p22⟩ := p22
    have f24 : fr S_Mod_readLineOfX_8 h h21 := fr_call f8 fh21 rfl
    have g31 : 0 ≤ o25Z ∧ o25Z ≤ 160 := inv_at hI23 o25E o25K.symm rfl
    have g32 : 0 ≤ o26Z ∧ o26Z ≤ 160 := inv_at hI23 o26E o26K.symm rfl
    replace p22 := And.intro (p22.1.resolve_right (fun q => by (first | decide +kernel | with_reducible assumption | omega))) p22.2
    refine N_iast sk_119 z19E (by (first | decide +kernel | with_reducible assumption | omega)) d_Mod_readLineOf_136 (fun h33 eh33 => ?_)
    have hI34 : Inv h33 := inv_full hI23 eh33 (st_lo (by (first | decide +kernel | with_reducible assumption | omega)))
    have f35 : fr S_Mod_readLineOfX_8 h h33 := fr_put f24 eh33 rfl
    refine V_goto 152 d_Mod_readLineOf_137 (by decide) ?_
    exact V_vret rfl d_Mod_readLineOf_152 ⟨rfl, ⟨hI34, f35, o25, o25Z, o25E, (kn_ne eh33 o25K (by decide)), o26, o26Z, o26E, (kn_ne eh33 o26K (by decide)), o27, o27Z, o27E, (kn_ne eh33 o27K (by decide)), o28, o28Z, o28E, (kn_ne eh33 o28K (by decide)), o29, o29Z, o29E, (kn_ne eh33 o29K (by decide)), o30, o30Z, o30E, (kn_ne eh33 o30K (by decide)), ⟨Or.inl ⟨by (first | decide +kernel | with_reducible assumption | omega), (show x_l5 b T p0 = (x_cN b p0 0 3, x_fr b p0) from by unfold x_l5; rw [x_sq_y (c := x_cN b p0 0 3) (by (first | decide +kernel | with_reducible assumption | omega))]).trans (pq (by (first | decide +kernel | with_reducible assumption | omega)) (by (first | decide +kernel | with_reducible assumption | omega)))⟩, by (first | decide +kernel | with_reducible assumption | omega), by (first | decide +kernel | with_reducible assumption | omega), by (first | decide +kernel | with_reducible assumption | omega)⟩⟩⟩
  ·
    replace p6 := And.intro ((p6.1.resolve_left (fun q => by (first | decide +kernel | with_reducible assumption | omega))).resolve_right (fun q => by (first | decide +kernel | with_reducible assumption | omega))) p6.2
    have g36 := x_c4_s (T 5 (x_vl b p0))
    refine V_aload_n 0 d_Mod_readLineOf_121 rfl rfl ?_
    refine V_getR fa_Mod_17 sk_116 rfl d_Mod_readLineOf_122 ?_
    refine V_bipush 80 d_Mod_readLineOf_125 (by decide) ?_
    refine V_iload_n 2 d_Mod_readLineOf_127 rfl rfl ?_
    refine V_iadd tc_80 z4E (by (first | decide +kernel | with_reducible assumption | omega)) d_Mod_readLineOf_128 (fun z37 z37e z37E => ?_)
    refine V_aload_n 0 d_Mod_readLineOf_129 rfl rfl ?_
    refine V_iconst 0 d_Mod_readLineOf_130 (by decide) ?_
    refine V_bipush 99 d_Mod_readLineOf_131 (by decide) ?_
    refine N_callVI [.int 0, .int 99] [.int z37, .ref 119] cv_Mod_158 sk_116 rfl d_Mod_readLineOf_133 rfl (Nat.le_of_ble_eq_true rfl) (by decide) (by decide) (c_Mod_readNumberX h5 b (x_en b p0) hI7 0 0 tc_0 99 99 tc_99 s sZ sE (kn_call fh5 sK rfl) o9 o9Z o9E o9K o10 o10Z o10E o10K o11 o11Z o11E o11K o12 o12Z o12E o12K o13 o13Z o13E o13K o14 o14Z o14E o14K (TP_fr f8 (fun _ => rfl) hy0) (by (first | decide +kernel | with_reducible assumption | omega)) (Or.inl (by (first | decide +kernel | with_reducible assumption | omega)))) (fun z38 h39 z38Z z38E p40 => ?_)
    obtain ⟨hI41, fh39, o43, o43Z, o43E, o43K, o44, o44Z, o44E, o44K, o45, o45Z, o45E, o45K, o46, o46Z, o46E, o46K, o47, o47Z, o47E, o47K, o48, o48Z, o48E, o48K, p40⟩ := p40
    have f42 : fr S_Mod_readLineOfX_8 h h39 := fr_call f8 fh39 rfl
    have g49 : 0 ≤ o43Z ∧ o43Z ≤ 160 := inv_at hI41 o43E o43K.symm rfl
    have g50 : 0 ≤ o44Z ∧ o44Z ≤ 160 := inv_at hI41 o44E o44K.symm rfl
    replace p40 := And.intro (p40.1.resolve_right (fun q => by (first | decide +kernel | with_reducible assumption | omega))) p40.2
    refine N_iast sk_119 z37E (by (first | decide +kernel | with_reducible assumption | omega)) d_Mod_readLineOf_136 (fun h51 eh51 => ?_)
    have hI52 : Inv h51 := inv_full hI41 eh51 (st_lo (by (first | decide +kernel | with_reducible assumption | omega)))
    have f53 : fr S_Mod_readLineOfX_8 h h51 := fr_put f42 eh51 rfl
    refine V_goto 152 d_Mod_readLineOf_137 (by decide) ?_
    exact V_vret rfl d_Mod_readLineOf_152 ⟨rfl, ⟨hI52, f53, o43, o43Z, o43E, (kn_ne eh51 o43K (by decide)), o44, o44Z, o44E, (kn_ne eh51 o44K (by decide)), o45, o45Z, o45E, (kn_ne eh51 o45K (by decide)), o46, o46Z, o46E, (kn_ne eh51 o46K (by decide)), o47, o47Z, o47E, (kn_ne eh51 o47K (by decide)), o48, o48Z, o48E, (kn_ne eh51 o48K (by decide)), ⟨Or.inl ⟨by (first | decide +kernel | with_reducible assumption | omega), (show x_l5 b T p0 = (x_c4 (T 5 (x_vl b p0)), x_fr b p0) from by unfold x_l5; rw [x_sq_n (c := x_cN b p0 0 3) (by (first | decide +kernel | with_reducible assumption | omega)), x_sq_y (c := x_c4 (T 5 (x_vl b p0))) (by (first | decide +kernel | with_reducible assumption | omega))]).trans (pq (by (first | decide +kernel | with_reducible assumption | omega)) (by (first | decide +kernel | with_reducible assumption | omega)))⟩, by (first | decide +kernel | with_reducible assumption | omega), by (first | decide +kernel | with_reducible assumption | omega), by (first | decide +kernel | with_reducible assumption | omega)⟩⟩⟩
  ·
    replace p6 := And.intro (((p6.1.resolve_left (fun q => by (first | decide +kernel | with_reducible assumption | omega))).resolve_left (fun q => by (first | decide +kernel | with_reducible assumption | omega))).2.2.2.1.resolve_right (fun q => by (first | decide +kernel | with_reducible assumption | omega))) p6.2
    have g54 := x_cN_s b (x_en b p0) 0 99
    refine V_aload_n 0 d_Mod_readLineOf_121 rfl rfl ?_
    refine V_getR fa_Mod_17 sk_116 rfl d_Mod_readLineOf_122 ?_
    refine V_bipush 80 d_Mod_readLineOf_125 (by decide) ?_
    refine V_iload_n 2 d_Mod_readLineOf_127 rfl rfl ?_
    refine V_iadd tc_80 z4E (by (first | decide +kernel | with_reducible assumption | omega)) d_Mod_readLineOf_128 (fun z55 z55e z55E => ?_)
    refine V_aload_n 0 d_Mod_readLineOf_129 rfl rfl ?_
    refine V_iconst 0 d_Mod_readLineOf_130 (by decide) ?_
    refine V_bipush 99 d_Mod_readLineOf_131 (by decide) ?_
    refine N_callVI [.int 0, .int 99] [.int z55, .ref 119] cv_Mod_158 sk_116 rfl d_Mod_readLineOf_133 rfl (Nat.le_of_ble_eq_true rfl) (by decide) (by decide) (c_Mod_readNumberX h5 b (x_en b p0) hI7 0 0 tc_0 99 99 tc_99 s sZ sE (kn_call fh5 sK rfl) o9 o9Z o9E o9K o10 o10Z o10E o10K o11 o11Z o11E o11K o12 o12Z o12E o12K o13 o13Z o13E o13K o14 o14Z o14E o14K (TP_fr f8 (fun _ => rfl) hy0) (by (first | decide +kernel | with_reducible assumption | omega)) (Or.inl (by (first | decide +kernel | with_reducible assumption | omega)))) (fun z56 h57 z56Z z56E p58 => ?_)
    obtain ⟨hI59, fh57, o61, o61Z, o61E, o61K, o62, o62Z, o62E, o62K, o63, o63Z, o63E, o63K, o64, o64Z, o64E, o64K, o65, o65Z, o65E, o65K, o66, o66Z, o66E, o66K, p58⟩ := p58
    have f60 : fr S_Mod_readLineOfX_8 h h57 := fr_call f8 fh57 rfl
    have g67 : 0 ≤ o61Z ∧ o61Z ≤ 160 := inv_at hI59 o61E o61K.symm rfl
    have g68 : 0 ≤ o62Z ∧ o62Z ≤ 160 := inv_at hI59 o62E o62K.symm rfl
    replace p58 := And.intro (p58.1.resolve_right (fun q => by (first | decide +kernel | with_reducible assumption | omega))) p58.2
    refine N_iast sk_119 z55E (by (first | decide +kernel | with_reducible assumption | omega)) d_Mod_readLineOf_136 (fun h69 eh69 => ?_)
    have hI70 : Inv h69 := inv_full hI59 eh69 (st_lo (by (first | decide +kernel | with_reducible assumption | omega)))
    have f71 : fr S_Mod_readLineOfX_8 h h69 := fr_put f60 eh69 rfl
    refine V_goto 152 d_Mod_readLineOf_137 (by decide) ?_
    exact V_vret rfl d_Mod_readLineOf_152 ⟨rfl, ⟨hI70, f71, o61, o61Z, o61E, (kn_ne eh69 o61K (by decide)), o62, o62Z, o62E, (kn_ne eh69 o62K (by decide)), o63, o63Z, o63E, (kn_ne eh69 o63K (by decide)), o64, o64Z, o64E, (kn_ne eh69 o64K (by decide)), o65, o65Z, o65E, (kn_ne eh69 o65K (by decide)), o66, o66Z, o66E, (kn_ne eh69 o66K (by decide)), ⟨Or.inl ⟨by (first | decide +kernel | with_reducible assumption | omega), (show x_l5 b T p0 = (x_cN b (x_en b p0) 0 99, x_fr b (x_en b p0)) from by unfold x_l5; rw [x_sq_n (c := x_cN b p0 0 3) (by (first | decide +kernel | with_reducible assumption | omega)), x_sq_n (c := x_c4 (T 5 (x_vl b p0))) (by (first | decide +kernel | with_reducible assumption | omega)), x_sq_y (c := x_cN b (x_en b p0) 0 99) (by (first | decide +kernel | with_reducible assumption | omega))]).trans (pq (by (first | decide +kernel | with_reducible assumption | omega)) (by (first | decide +kernel | with_reducible assumption | omega)))⟩, by (first | decide +kernel | with_reducible assumption | omega), by (first | decide +kernel | with_reducible assumption | omega), by (first | decide +kernel | with_reducible assumption | omega)⟩⟩⟩
  ·
    obtain ⟨p61, p62, p63, p64, p6R⟩ := ((p6.1.resolve_left (fun q => by (first | decide +kernel | with_reducible assumption | omega))).resolve_left (fun q => by (first | decide +kernel | with_reducible assumption | omega)))
    replace p6 := And.intro (p64.resolve_left (fun q => by (first | decide +kernel | with_reducible assumption | omega))) p6.2
    clear p64
    refine V_aload_n 0 d_Mod_readLineOf_121 rfl rfl ?_
    refine V_getR fa_Mod_17 sk_116 rfl d_Mod_readLineOf_122 ?_
    refine V_bipush 80 d_Mod_readLineOf_125 (by decide) ?_
    refine V_iload_n 2 d_Mod_readLineOf_127 rfl rfl ?_
    refine V_iadd tc_80 z4E (by (first | decide +kernel | with_reducible assumption | omega)) d_Mod_readLineOf_128 (fun z72 z72e z72E => ?_)
    refine V_aload_n 0 d_Mod_readLineOf_129 rfl rfl ?_
    refine V_iconst 0 d_Mod_readLineOf_130 (by decide) ?_
    refine V_bipush 99 d_Mod_readLineOf_131 (by decide) ?_
    refine N_callVI [.int 0, .int 99] [.int z72, .ref 119] cv_Mod_158 sk_116 rfl d_Mod_readLineOf_133 rfl (Nat.le_of_ble_eq_true rfl) (by decide) (by decide) (c_Mod_readNumberX h5 b (x_en b p0) hI7 0 0 tc_0 99 99 tc_99 s sZ sE (kn_call fh5 sK rfl) o9 o9Z o9E o9K o10 o10Z o10E o10K o11 o11Z o11E o11K o12 o12Z o12E o12K o13 o13Z o13E o13K o14 o14Z o14E o14K (TP_fr f8 (fun _ => rfl) hy0) (by (first | decide +kernel | with_reducible assumption | omega)) (Or.inr ⟨by (first | decide +kernel | with_reducible assumption | omega), by (first | decide +kernel | with_reducible assumption | omega), by (first | decide +kernel | with_reducible assumption | omega), by (first | decide +kernel | with_reducible assumption | omega), by (first | decide +kernel | with_reducible assumption | omega), by (first | decide +kernel | with_reducible assumption | omega), by (first | decide +kernel | with_reducible assumption | omega), by (first | decide +kernel | with_reducible assumption | omega), by (first | decide +kernel | with_reducible assumption | omega), by (first | decide +kernel | with_reducible assumption | omega), by (first | decide +kernel | with_reducible assumption | omega)⟩)) (fun z73 h74 z73Z z73E p75 => ?_)
    obtain ⟨hI76, fh74, o78, o78Z, o78E, o78K, o79, o79Z, o79E, o79K, o80, o80Z, o80E, o80K, o81, o81Z, o81E, o81K, o82, o82Z, o82E, o82K, o83, o83Z, o83E, o83K, p75⟩ := p75
    have f77 : fr S_Mod_readLineOfX_8 h h74 := fr_call f8 fh74 rfl
    have R84 : RM h74 (x_upT T 5 (x_vl b p0)) D := RM_fr fh74 rfl p6R
    have g85 : 0 ≤ o78Z ∧ o78Z ≤ 160 := inv_at hI76 o78E o78K.symm rfl
    have g86 : 0 ≤ o79Z ∧ o79Z ≤ 160 := inv_at hI76 o79E o79K.symm rfl
    rcases (dj3 _ _ : o82Z ≠ 0 ∧ x_cN b (x_en b p0) 0 99 ≠ 0 ∨ o82Z ≠ 0 ∧ x_cN b (x_en b p0) 0 99 = 0 ∨ o82Z = 0) with c87 | c87 | c87
    ·
      replace p75 := And.intro ((p75.1.resolve_left (fun q => by (first | decide +kernel | with_reducible assumption | omega))).resolve_right (fun q => by (first | decide +kernel | with_reducible assumption | omega))) p75.2
      have g88 := x_cN_s b (x_en b p0) 0 99
      have g89 := x_cS_s b (x_en b (x_en b p0))
      refine N_iast sk_119 z72E (by (first | decide +kernel | with_reducible assumption | omega)) d_Mod_readLineOf_136 (fun h90 eh90 => ?_)
      have hI91 : Inv h90 := inv_full hI76 eh90 (st_lo (by (first | decide +kernel | with_reducible assumption | omega)))
      have f92 : fr S_Mod_readLineOfX_8 h h90 := fr_put f77 eh90 rfl
      refine V_goto 152 d_Mod_readLineOf_137 (by decide) ?_
      exact V_vret rfl d_Mod_readLineOf_152 ⟨rfl, ⟨hI91, f92, o78, o78Z, o78E, (kn_ne eh90 o78K (by decide)), o79, o79Z, o79E, (kn_ne eh90 o79K (by decide)), o80, o80Z, o80E, (kn_ne eh90 o80K (by decide)), o81, o81Z, o81E, (kn_ne eh90 o81K (by decide)), o82, o82Z, o82E, (kn_ne eh90 o82K (by decide)), o83, o83Z, o83E, (kn_ne eh90 o83K (by decide)), ⟨Or.inl ⟨by (first | decide +kernel | with_reducible assumption | omega), (show x_l5 b T p0 = (x_cN b (x_en b p0) 0 99, x_fr b (x_en b p0)) from by unfold x_l5; rw [x_sq_n (c := x_cN b p0 0 3) (by (first | decide +kernel | with_reducible assumption | omega)), x_sq_n (c := x_c4 (T 5 (x_vl b p0))) (by (first | decide +kernel | with_reducible assumption | omega)), x_sq_y (c := x_cN b (x_en b p0) 0 99) (by (first | decide +kernel | with_reducible assumption | omega))]).trans (pq (by (first | decide +kernel | with_reducible assumption | omega)) (by (first | decide +kernel | with_reducible assumption | omega)))⟩, by (first | decide +kernel | with_reducible assumption | omega), by (first | decide +kernel | with_reducible assumption | omega), by (first | decide +kernel | with_reducible assumption | omega)⟩⟩⟩
    ·
      replace p75 := And.intro ((p75.1.resolve_left (fun q => by (first | decide +kernel | with_reducible assumption | omega))).resolve_left (fun q => by (first | decide +kernel | with_reducible assumption | omega))).2.1 (And.intro ((p75.1.resolve_left (fun q => by (first | decide +kernel | with_reducible assumption | omega))).resolve_left (fun q => by (first | decide +kernel | with_reducible assumption | omega))).2.2.1 (And.intro (((p75.1.resolve_left (fun q => by (first | decide +kernel | with_reducible assumption | omega))).resolve_left (fun q => by (first | decide +kernel | with_reducible assumption | omega))).2.2.2.resolve_right (fun q => by (first | decide +kernel | with_reducible assumption | omega))) p75.2))
      have g93 := x_cN_0 p75.1
      have g94 := x_cS_4 (b := b) (p := (x_en b (x_en b p0))) (by (first | decide +kernel | with_reducible assumption | omega))
      have g95 := x_cN_s b (x_en b p0) 0 99
      have g96 := x_cS_s b (x_en b (x_en b p0))
      refine N_iast sk_119 z72E (by (first | decide +kernel | with_reducible assumption | omega)) d_Mod_readLineOf_136 (fun h97 eh97 => ?_)
      have hI98 : Inv h97 := inv_full hI76 eh97 (st_lo (by (first | decide +kernel | with_reducible assumption | omega)))
      have f99 : fr S_Mod_readLineOfX_8 h h97 := fr_put f77 eh97 rfl
      refine V_goto 152 d_Mod_readLineOf_137 (by decide) ?_
      exact V_vret rfl d_Mod_readLineOf_152 ⟨rfl, ⟨hI98, f99, o78, o78Z, o78E, (kn_ne eh97 o78K (by decide)), o79, o79Z, o79E, (kn_ne eh97 o79K (by decide)), o80, o80Z, o80E, (kn_ne eh97 o80K (by decide)), o81, o81Z, o81E, (kn_ne eh97 o81K (by decide)), o82, o82Z, o82E, (kn_ne eh97 o82K (by decide)), o83, o83Z, o83E, (kn_ne eh97 o83K (by decide)), ⟨Or.inl ⟨by (first | decide +kernel | with_reducible assumption | omega), (show x_l5 b T p0 = (x_cS b (x_en b (x_en b p0)), x_fr b (x_en b (x_en b p0))) from by unfold x_l5; rw [x_sq_n (c := x_cN b p0 0 3) (by (first | decide +kernel | with_reducible assumption | omega)), x_sq_n (c := x_c4 (T 5 (x_vl b p0))) (by (first | decide +kernel | with_reducible assumption | omega)), x_sq_n (c := x_cN b (x_en b p0) 0 99) (by (first | decide +kernel | with_reducible assumption | omega)), x_sq_y (c := x_cS b (x_en b (x_en b p0))) (by (first | decide +kernel | with_reducible assumption | omega))]).trans (pq (by (first | decide +kernel | with_reducible assumption | omega)) (by (first | decide +kernel | with_reducible assumption | omega)))⟩, by (first | decide +kernel | with_reducible assumption | omega), by (first | decide +kernel | with_reducible assumption | omega), by (first | decide +kernel | with_reducible assumption | omega)⟩⟩⟩
    ·
      replace p75 := And.intro ((p75.1.resolve_left (fun q => by (first | decide +kernel | with_reducible assumption | omega))).resolve_left (fun q => by (first | decide +kernel | with_reducible assumption | omega))).2.1 (And.intro ((p75.1.resolve_left (fun q => by (first | decide +kernel | with_reducible assumption | omega))).resolve_left (fun q => by (first | decide +kernel | with_reducible assumption | omega))).2.2.1 (And.intro (((p75.1.resolve_left (fun q => by (first | decide +kernel | with_reducible assumption | omega))).resolve_left (fun q => by (first | decide +kernel | with_reducible assumption | omega))).2.2.2.resolve_left (fun q => by (first | decide +kernel | with_reducible assumption | omega))) p75.2))
      have g100 := x_cN_0 p75.1
      refine N_iast sk_119 z72E (by (first | decide +kernel | with_reducible assumption | omega)) d_Mod_readLineOf_136 (fun h101 eh101 => ?_)
      have hI102 : Inv h101 := inv_full hI76 eh101 (st_lo (by (first | decide +kernel | with_reducible assumption | omega)))
      have f103 : fr S_Mod_readLineOfX_8 h h101 := fr_put f77 eh101 rfl
      have R104 : RM h101 (x_upT T 5 (x_vl b p0)) (x_up D (80 + (x_vl b p0)) (x_vl b (x_en b p0))) := RM_put R84 eh101 (Or.inl ⟨rfl, by (first | decide +kernel | with_reducible assumption | omega), rfl⟩) (z73E.trans (by (first | decide +kernel | with_reducible assumption | omega))) (by (first | decide +kernel | with_reducible assumption | omega))
      refine V_goto 152 d_Mod_readLineOf_137 (by decide) ?_
      exact V_vret rfl d_Mod_readLineOf_152 ⟨rfl, ⟨hI102, f103, o78, o78Z, o78E, (kn_ne eh101 o78K (by decide)), o79, o79Z, o79E, (kn_ne eh101 o79K (by decide)), o80, o80Z, o80E, (kn_ne eh101 o80K (by decide)), o81, o81Z, o81E, (kn_ne eh101 o81K (by decide)), o82, o82Z, o82E, (kn_ne eh101 o82K (by decide)), o83, o83Z, o83E, (kn_ne eh101 o83K (by decide)), ⟨Or.inr ⟨by (first | decide +kernel | with_reducible assumption | omega), by unfold x_l5; rw [x_sq_n (c := x_cN b p0 0 3) (by (first | decide +kernel | with_reducible assumption | omega)), x_sq_n (c := x_c4 (T 5 (x_vl b p0))) (by (first | decide +kernel | with_reducible assumption | omega)), x_sq_n (c := x_cN b (x_en b p0) 0 99) (by (first | decide +kernel | with_reducible assumption | omega))], p75.2.2.1.2, R104⟩, by (first | decide +kernel | with_reducible assumption | omega), by (first | decide +kernel | with_reducible assumption | omega), by (first | decide +kernel | with_reducible assumption | omega)⟩⟩⟩
def S_Mod_readLineOfX_9 : List (Nat × Option Nat) := [(116, some 16), (116, some 17), (116, some 18), (116, some 19), (116, some 20), (116, some 21), (119, none)]
abbrev q_Mod_readLineOfX_9 (h : Hp) (b : Int → Int) (T : Nat → Int → Int) (D : Nat → Int) (p0 : Int) (s : Int32) (sZ : Int) (p : Int32) (pZ : Int) (g : Int32) (gZ : Int) (k : Int32) (kZ : Int) (v : Int32) (vZ : Int) (w : Int32) (wZ : Int) (a : Int32) (aZ : Int) (m : Int32) (mZ : Int) : Option Value → Hp → Prop := pVd (fun h' => Inv h' ∧ fr S_Mod_readLineOfX_9 h h' ∧ ∃ (q : Int32) (qZ : Int), q.toInt = qZ ∧ h'.1 116 16 = q ∧ ∃ (f : Int32) (fZ : Int), f.toInt = fZ ∧ h'.1 116 17 = f ∧ ∃ (m : Int32) (mZ : Int), m.toInt = mZ ∧ h'.1 116 18 = m ∧ ∃ (x : Int32) (xZ : Int), x.toInt = xZ ∧ h'.1 116 19 = x ∧ ∃ (u : Int32) (uZ : Int), u.toInt = uZ ∧ h'.1 116 20 = u ∧ ∃ (y : Int32) (yZ : Int), y.toInt = yZ ∧ h'.1 116 21 = y ∧ ((uZ ≠ 0 ∧ x_l9 b T p0 = (uZ, yZ) ∨ uZ = 0 ∧ x_l9 b T p0 = x_sq (x_cS b (x_en b (x_en b (x_en b p0)))) (x_fr b (x_en b (x_en b (x_en b p0)))) (0, x_en b (x_en b (x_en b (x_en b p0)))) ∧ (fZ = x_fr b (x_en b (x_en b (x_en b p0))) ∧ mZ = x_kd b (x_en b (x_en b (x_en b p0))) ∧ mZ ≠ 4 ∧ 0 ≤ mZ ∧ mZ ≤ 3 ∧ qZ = x_en b (x_en b (x_en b (x_en b p0))) ∧ (mZ ≠ 2 ∨ xZ = x_vl b (x_en b (x_en b (x_en b p0))) ∧ 0 ≤ xZ ∧ xZ ≤ 99) ∧ (x_en b (x_en b (x_en b p0))) ≤ fZ ∧ fZ ≤ qZ ∧ qZ ≤ sZ ∧ (mZ = 0 ∨ fZ < qZ)) ∧ RM h' T (x_up (x_up (x_up (x_up D (87 + 3 * D 86) (x_vl b p0)) (88 + 3 * D 86) (x_vl b (x_en b p0))) (89 + 3 * D 86) (x_vl b (x_en b (x_en b p0)))) 86 (D 86 + 1))) ∧ 0 ≤ qZ ∧ qZ ≤ sZ ∧ 0 ≤ uZ))
set_option maxRecDepth 100000 in
theorem c_Mod_readLineOfX_9 (h : Hp) (b : Int → Int) (T : Nat → Int → Int) (D : Nat → Int) (p0 : Int) (hI : Inv h) (s : Int32) (sZ : Int) (sE : s.toInt = sZ) (sK : h.1 116 15 = s) (p : Int32) (pZ : Int) (pE : p.toInt = pZ) (pK : h.1 116 16 = p) (g : Int32) (gZ : Int) (gE : g.toInt = gZ) (gK : h.1 116 17 = g) (k : Int32) (kZ : Int) (kE : k.toInt = kZ) (kK : h.1 116 18 = k) (v : Int32) (vZ : Int) (vE : v.toInt = vZ) (vK : h.1 116 19 = v) (w : Int32) (wZ : Int) (wE : w.toInt = wZ) (wK : h.1 116 20 = w) (a : Int32) (aZ : Int) (aE : a.toInt = aZ) (aK : h.1 116 21 = a) (m : Int32) (mZ : Int) (mE : m.toInt = mZ) (mK : h.1 119 86 = m) (hy0 : TP h 121 sZ b) (hy1 : 0 ≤ pZ ∧ pZ ≤ sZ ∧ wZ = 0) (hy2 : gZ = x_fr b p0 ∧ kZ = x_kd b p0 ∧ kZ ≠ 4 ∧ 0 ≤ kZ ∧ kZ ≤ 3 ∧ pZ = x_en b p0 ∧ (kZ ≠ 2 ∨ vZ = x_vl b p0 ∧ 0 ≤ vZ ∧ vZ ≤ 99) ∧ p0 ≤ gZ ∧ gZ ≤ pZ ∧ pZ ≤ sZ ∧ (kZ = 0 ∨ gZ < pZ)) (hy3 : RM h T D) (hy4 : mZ < 8) : Ct y_Mod_readLineOf b_Mod_readLineOf 3 none 4 92 [.ref 116, .int 9] h (q_Mod_readLineOfX_9 h b T D p0 s sZ p pZ g gZ k kZ v vZ w wZ a aZ m mZ) := by
  refine ct_ow R_Mod [some (.ref 116), some (.int 9), none] rfl (by decide) rfl (Nat.le_of_ble_eq_true rfl) ?_
  have f0 : fr S_Mod_readLineOfX_9 h h := fr_rf
  have g1 : 0 ≤ sZ ∧ sZ ≤ 160 := inv_at hI sE sK.symm rfl
  have g2 : 0 ≤ pZ ∧ pZ ≤ 160 := inv_at hI pE pK.symm rfl
  have g3 : 0 ≤ gZ ∧ gZ ≤ 160 := inv_at hI gE gK.symm rfl
  refine V_iload_n 1 d_Mod_readLineOf_0 rfl rfl ?_
  refine V_tabIn 140 tc_9 d_Mod_readLineOf_1 (by decide) (by decide) rfl (by decide) ?_
  refine V_aload_n 0 d_Mod_readLineOf_140 rfl rfl ?_
  refine N_callVV [] [] cv_Mod_167 sk_116 rfl d_Mod_readLineOf_141 rfl (Nat.le_of_ble_eq_true rfl) (by decide) (by decide) (c_Mod_readDebtX h b T D p0 hI s sZ sE sK p pZ pE pK g gZ gE gK k kZ kE kK v vZ vE vK w wZ wE wK a aZ aE aK m mZ mE mK (TP_fr f0 (fun _ => rfl) hy0) (by (first | decide +kernel | with_reducible assumption | omega)) ⟨by (first | decide +kernel | with_reducible assumption | omega), by (first | decide +kernel | with_reducible assumption | omega), by (first | decide +kernel | with_reducible assumption | omega), by (first | decide +kernel | with_reducible assumption | omega), by (first | decide +kernel | with_reducible assumption | omega), by (first | decide +kernel | with_reducible assumption | omega), by (first | decide +kernel | with_reducible assumption | omega), by (first | decide +kernel | with_reducible assumption | omega), by (first | decide +kernel | with_reducible assumption | omega), by (first | decide +kernel | with_reducible assumption | omega), by (first | decide +kernel | with_reducible assumption | omega)⟩ hy3 (by (first | decide +kernel | with_reducible assumption | omega))) (fun h5 p6 => ?_)
  obtain ⟨hI7, fh5, o9, o9Z, o9E, o9K, o10, o10Z, o10E, o10K, o11, o11Z, o11E, o11K, o12, o12Z, o12E, o12K, o13, o13Z, o13E, o13K, o14, o14Z, o14E, o14K, p6⟩ := p6
  have f8 : fr S_Mod_readLineOfX_9 h h5 := fr_call f0 fh5 rfl
  have g15 : 0 ≤ o9Z ∧ o9Z ≤ 160 := inv_at hI7 o9E o9K.symm rfl
  have g16 : 0 ≤ o10Z ∧ o10Z ≤ 160 := inv_at hI7 o10E o10K.symm rfl
  refine V_goto 152 d_Mod_readLineOf_144 (by decide) ?_
  exact V_vret rfl d_Mod_readLineOf_152 ⟨rfl, ⟨hI7, f8, o9, o9Z, o9E, o9K, o10, o10Z, o10E, o10K, o11, o11Z, o11E, o11K, o12, o12Z, o12E, o12K, o13, o13Z, o13E, o13K, o14, o14Z, o14E, o14K, p6⟩⟩
end
section
theorem rnF_ge9 (P : Int → Bool) (b : Int → Int) : ∀ (k : Nat) (p : Int), p ≤ rnF P b k p := by
  intro k
  induction k with
  | zero => intro p; exact Int.le_refl p
  | succ k ih =>
    intro p
    show p ≤ (if P (b p) = true then rnF P b k (p + 1) else p)
    split
    · have := ih (p + 1); omega
    · omega
theorem rn_ge9 (P : Int → Bool) (b : Int → Int) (p : Int) : p ≤ rn P b p := rnF_ge9 P b _ p
theorem x_fr_ge (b : Int → Int) (p : Int) : p ≤ x_fr b p := rn_ge9 blB b p
theorem x_en_ge (b : Int → Int) (p : Int) : p ≤ x_en b p := by
  have h0 := x_fr_ge b p
  have h1 := rn_ge9 leB b (x_fr b p)
  have h2 := rn_ge9 fiB b (x_fr b p)
  unfold x_en
  split
  · omega
  · split
    · omega
    · split <;> omega
end
