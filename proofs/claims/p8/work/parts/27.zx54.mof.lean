def S_Mod_readLineOfX_0 : List (Nat × Option Nat) := [(116, some 16), (116, some 17), (116, some 18), (116, some 19), (116, some 20), (116, some 21), (116, some 7), (116, some 8)]
abbrev q_Mod_readLineOfX_0 (h : Hp) (b : Int → Int) (T : Nat → Int → Int) (D : Nat → Int) (p0 : Int) (s : Int32) (sZ : Int) (p : Int32) (pZ : Int) (g : Int32) (gZ : Int) (k : Int32) (kZ : Int) (v : Int32) (vZ : Int) (w : Int32) (wZ : Int) (a : Int32) (aZ : Int) : Option Value → Hp → Prop := pVd (fun h' => Inv h' ∧ fr S_Mod_readLineOfX_0 h h' ∧ ∃ (q : Int32) (qZ : Int), q.toInt = qZ ∧ h'.1 116 16 = q ∧ ∃ (f : Int32) (fZ : Int), f.toInt = fZ ∧ h'.1 116 17 = f ∧ ∃ (m : Int32) (mZ : Int), m.toInt = mZ ∧ h'.1 116 18 = m ∧ ∃ (x : Int32) (xZ : Int), x.toInt = xZ ∧ h'.1 116 19 = x ∧ ∃ (u : Int32) (uZ : Int), u.toInt = uZ ∧ h'.1 116 20 = u ∧ ∃ (y : Int32) (yZ : Int), y.toInt = yZ ∧ h'.1 116 21 = y ∧ ((uZ ≠ 0 ∧ x_l0 b T p0 = (uZ, yZ) ∨ uZ = 0 ∧ x_l0 b T p0 = x_sq (x_cS b (x_en b (x_en b p0))) (x_fr b (x_en b (x_en b p0))) (0, x_en b (x_en b (x_en b p0))) ∧ (fZ = x_fr b (x_en b (x_en b p0)) ∧ mZ = x_kd b (x_en b (x_en b p0)) ∧ mZ ≠ 4 ∧ 0 ≤ mZ ∧ mZ ≤ 3 ∧ qZ = x_en b (x_en b (x_en b p0)) ∧ (mZ ≠ 2 ∨ xZ = x_vl b (x_en b (x_en b p0)) ∧ 0 ≤ xZ ∧ xZ ≤ 99) ∧ (x_en b (x_en b p0)) ≤ fZ ∧ fZ ≤ qZ ∧ qZ ≤ sZ ∧ (mZ = 0 ∨ fZ < qZ)) ∧ RM h' T (x_up (x_up D 144 (x_vl b p0)) 145 (x_vl b (x_en b p0)))) ∧ 0 ≤ qZ ∧ qZ ≤ sZ ∧ 0 ≤ uZ))
set_option maxRecDepth 100000 in
theorem c_Mod_readLineOfX_0 (h : Hp) (b : Int → Int) (T : Nat → Int → Int) (D : Nat → Int) (p0 : Int) (hI : Inv h) (s : Int32) (sZ : Int) (sE : s.toInt = sZ) (sK : h.1 116 15 = s) (p : Int32) (pZ : Int) (pE : p.toInt = pZ) (pK : h.1 116 16 = p) (g : Int32) (gZ : Int) (gE : g.toInt = gZ) (gK : h.1 116 17 = g) (k : Int32) (kZ : Int) (kE : k.toInt = kZ) (kK : h.1 116 18 = k) (v : Int32) (vZ : Int) (vE : v.toInt = vZ) (vK : h.1 116 19 = v) (w : Int32) (wZ : Int) (wE : w.toInt = wZ) (wK : h.1 116 20 = w) (a : Int32) (aZ : Int) (aE : a.toInt = aZ) (aK : h.1 116 21 = a) (hy0 : TP h 121 sZ b) (hy1 : 0 ≤ pZ ∧ pZ ≤ sZ ∧ wZ = 0) (hy2 : gZ = x_fr b p0 ∧ kZ = x_kd b p0 ∧ kZ ≠ 4 ∧ 0 ≤ kZ ∧ kZ ≤ 3 ∧ pZ = x_en b p0 ∧ (kZ ≠ 2 ∨ vZ = x_vl b p0 ∧ 0 ≤ vZ ∧ vZ ≤ 99) ∧ p0 ≤ gZ ∧ gZ ≤ pZ ∧ pZ ≤ sZ ∧ (kZ = 0 ∨ gZ < pZ)) (hy3 : RM h T D) : Ct y_Mod_readLineOf b_Mod_readLineOf 3 none 3 70 [.ref 116, .int 0] h (q_Mod_readLineOfX_0 h b T D p0 s sZ p pZ g gZ k kZ v vZ w wZ a aZ) := by
  refine ct_ow R_Mod [some (.ref 116), some (.int 0), none] rfl (by decide) rfl (Nat.le_of_ble_eq_true rfl) ?_
  have f0 : fr S_Mod_readLineOfX_0 h h := fr_rf
  have g1 : 0 ≤ sZ ∧ sZ ≤ 160 := inv_at hI sE sK.symm rfl
  have g2 : 0 ≤ pZ ∧ pZ ≤ 160 := inv_at hI pE pK.symm rfl
  have g3 : 0 ≤ gZ ∧ gZ ≤ 160 := inv_at hI gE gK.symm rfl
  refine V_iload_n 1 d_Mod_readLineOf_0 rfl rfl ?_
  refine V_tabIn 56 tc_0 d_Mod_readLineOf_1 (by decide) (by decide) rfl (by decide) ?_
  refine V_aload_n 0 d_Mod_readLineOf_56 rfl rfl ?_
  refine V_aload_n 0 d_Mod_readLineOf_57 rfl rfl ?_
  refine V_iconst 2 d_Mod_readLineOf_58 (by decide) ?_
  refine V_iconst 4 d_Mod_readLineOf_59 (by decide) ?_
  refine N_callVI [.int 2, .int 4] [.ref 116] cv_Mod_158 sk_116 rfl d_Mod_readLineOf_60 rfl (Nat.le_of_ble_eq_true rfl) (by decide) (by decide) (c_Mod_readNumberX h b p0 hI 2 2 tc_2 4 4 tc_4 s sZ sE sK p pZ pE pK g gZ gE gK k kZ kE kK v vZ vE vK w wZ wE wK a aZ aE aK (TP_fr f0 (fun _ => rfl) hy0) (by (first | decide +kernel | omega)) (Or.inr ⟨by (first | decide +kernel | omega), by (first | decide +kernel | omega), by (first | decide +kernel | omega), by (first | decide +kernel | omega), by (first | decide +kernel | omega), by (first | decide +kernel | omega), by (first | decide +kernel | omega), by (first | decide +kernel | omega), by (first | decide +kernel | omega), by (first | decide +kernel | omega), by (first | decide +kernel | omega)⟩)) (fun z4 h5 z4Z z4E p6 => ?_)
  obtain ⟨hI7, fh5, o9, o9Z, o9E, o9K, o10, o10Z, o10E, o10K, o11, o11Z, o11E, o11K, o12, o12Z, o12E, o12K, o13, o13Z, o13E, o13K, o14, o14Z, o14E, o14K, p6⟩ := p6
  have f8 : fr S_Mod_readLineOfX_0 h h5 := fr_call f0 fh5 rfl
  have R15 : RM h5 T D := RM_fr fh5 rfl hy3
  have g16 : 0 ≤ o9Z ∧ o9Z ≤ 160 := inv_at hI7 o9E o9K.symm rfl
  have g17 : 0 ≤ o10Z ∧ o10Z ≤ 160 := inv_at hI7 o10E o10K.symm rfl
  rcases (by (first | decide +kernel | omega) : o13Z ≠ 0 ∧ x_cN b p0 2 4 ≠ 0 ∨ o13Z ≠ 0 ∧ x_cN b p0 2 4 = 0 ∨ o13Z = 0) with c18 | c18 | c18
  ·
    replace p6 := And.intro ((p6.1.resolve_left (fun q => by (first | decide +kernel | omega))).resolve_right (fun q => by (first | decide +kernel | omega))) p6.2
    refine N_putI fp_Mod_62 sk_116 rfl d_Mod_readLineOf_63 (fun h19 eh19 => ?_)
    have hI20 : Inv h19 := inv_put (lo := 0) (hi := 4) hI7 eh19 rfl z4E (by (first | decide +kernel | omega))
    have f21 : fr S_Mod_readLineOfX_0 h h19 := fr_put f8 eh19 rfl
    refine V_aload_n 0 d_Mod_readLineOf_66 rfl rfl ?_
    refine V_aload_n 0 d_Mod_readLineOf_67 rfl rfl ?_
    refine V_iconst 2 d_Mod_readLineOf_68 (by decide) ?_
    refine V_iconst 4 d_Mod_readLineOf_69 (by decide) ?_
    refine N_callVI [.int 2, .int 4] [.ref 116] cv_Mod_158 sk_116 rfl d_Mod_readLineOf_70 rfl (Nat.le_of_ble_eq_true rfl) (by decide) (by decide) (c_Mod_readNumberX h19 b (x_en b p0) hI20 2 2 tc_2 4 4 tc_4 s sZ sE (kn_nei eh19 (kn_call fh5 sK rfl) (by decide)) o9 o9Z o9E (kn_nei eh19 o9K (by decide)) o10 o10Z o10E (kn_nei eh19 o10K (by decide)) o11 o11Z o11E (kn_nei eh19 o11K (by decide)) o12 o12Z o12E (kn_nei eh19 o12K (by decide)) o13 o13Z o13E (kn_nei eh19 o13K (by decide)) o14 o14Z o14E (kn_nei eh19 o14K (by decide)) (TP_fr f21 (fun _ => rfl) hy0) (by (first | decide +kernel | omega)) (Or.inl (by (first | decide +kernel | omega)))) (fun z22 h23 z22Z z22E p24 => ?_)
    obtain ⟨hI25, fh23, o27, o27Z, o27E, o27K, o28, o28Z, o28E, o28K, o29, o29Z, o29E, o29K, o30, o30Z, o30E, o30K, o31, o31Z, o31E, o31K, o32, o32Z, o32E, o32K, p24⟩ := p24
    have f26 : fr S_Mod_readLineOfX_0 h h23 := fr_call f21 fh23 rfl
    have g33 : 0 ≤ o27Z ∧ o27Z ≤ 160 := inv_at hI25 o27E o27K.symm rfl
    have g34 : 0 ≤ o28Z ∧ o28Z ≤ 160 := inv_at hI25 o28E o28K.symm rfl
    replace p24 := And.intro (p24.1.resolve_right (fun q => by (first | decide +kernel | omega))) p24.2
    refine N_putI fp_Mod_66 sk_116 rfl d_Mod_readLineOf_73 (fun h35 eh35 => ?_)
    have hI36 : Inv h35 := inv_put (lo := 0) (hi := 4) hI25 eh35 rfl z22E (by (first | decide +kernel | omega))
    have f37 : fr S_Mod_readLineOfX_0 h h35 := fr_put f26 eh35 rfl
    refine V_goto 152 d_Mod_readLineOf_76 (by decide) ?_
    exact V_vret rfl d_Mod_readLineOf_152 ⟨rfl, ⟨hI36, f37, o27, o27Z, o27E, (kn_nei eh35 o27K (by decide)), o28, o28Z, o28E, (kn_nei eh35 o28K (by decide)), o29, o29Z, o29E, (kn_nei eh35 o29K (by decide)), o30, o30Z, o30E, (kn_nei eh35 o30K (by decide)), o31, o31Z, o31E, (kn_nei eh35 o31K (by decide)), o32, o32Z, o32E, (kn_nei eh35 o32K (by decide)), ⟨Or.inl ⟨by (first | decide +kernel | omega), (show x_l0 b T p0 = (x_cN b p0 2 4, x_fr b p0) from by unfold x_l0; rw [x_sq_y (c := x_cN b p0 2 4) (by (first | decide +kernel | omega))]).trans (pq (by (first | decide +kernel | omega)) (by (first | decide +kernel | omega)))⟩, by (first | decide +kernel | omega), by (first | decide +kernel | omega), by (first | decide +kernel | omega)⟩⟩⟩
  ·
    replace p6 := And.intro ((p6.1.resolve_left (fun q => by (first | decide +kernel | omega))).resolve_left (fun q => by (first | decide +kernel | omega))).2.1 (And.intro ((p6.1.resolve_left (fun q => by (first | decide +kernel | omega))).resolve_left (fun q => by (first | decide +kernel | omega))).2.2.1 (And.intro (((p6.1.resolve_left (fun q => by (first | decide +kernel | omega))).resolve_left (fun q => by (first | decide +kernel | omega))).2.2.2.resolve_right (fun q => by (first | decide +kernel | omega))) p6.2))
    have g38 := x_cN_0 p6.1
    have g39 := x_cN_4 (b := b) (p := (x_en b p0)) 2 4 (by (first | decide +kernel | omega))
    refine N_putI fp_Mod_62 sk_116 rfl d_Mod_readLineOf_63 (fun h40 eh40 => ?_)
    have hI41 : Inv h40 := inv_put (lo := 0) (hi := 4) hI7 eh40 rfl z4E (by (first | decide +kernel | omega))
    have f42 : fr S_Mod_readLineOfX_0 h h40 := fr_put f8 eh40 rfl
    refine V_aload_n 0 d_Mod_readLineOf_66 rfl rfl ?_
    refine V_aload_n 0 d_Mod_readLineOf_67 rfl rfl ?_
    refine V_iconst 2 d_Mod_readLineOf_68 (by decide) ?_
    refine V_iconst 4 d_Mod_readLineOf_69 (by decide) ?_
    refine N_callVI [.int 2, .int 4] [.ref 116] cv_Mod_158 sk_116 rfl d_Mod_readLineOf_70 rfl (Nat.le_of_ble_eq_true rfl) (by decide) (by decide) (c_Mod_readNumberX h40 b (x_en b p0) hI41 2 2 tc_2 4 4 tc_4 s sZ sE (kn_nei eh40 (kn_call fh5 sK rfl) (by decide)) o9 o9Z o9E (kn_nei eh40 o9K (by decide)) o10 o10Z o10E (kn_nei eh40 o10K (by decide)) o11 o11Z o11E (kn_nei eh40 o11K (by decide)) o12 o12Z o12E (kn_nei eh40 o12K (by decide)) o13 o13Z o13E (kn_nei eh40 o13K (by decide)) o14 o14Z o14E (kn_nei eh40 o14K (by decide)) (TP_fr f42 (fun _ => rfl) hy0) (by (first | decide +kernel | omega)) (Or.inl (by (first | decide +kernel | omega)))) (fun z43 h44 z43Z z43E p45 => ?_)
    obtain ⟨hI46, fh44, o48, o48Z, o48E, o48K, o49, o49Z, o49E, o49K, o50, o50Z, o50E, o50K, o51, o51Z, o51E, o51K, o52, o52Z, o52E, o52K, o53, o53Z, o53E, o53K, p45⟩ := p45
    have f47 : fr S_Mod_readLineOfX_0 h h44 := fr_call f42 fh44 rfl
    have g54 : 0 ≤ o48Z ∧ o48Z ≤ 160 := inv_at hI46 o48E o48K.symm rfl
    have g55 : 0 ≤ o49Z ∧ o49Z ≤ 160 := inv_at hI46 o49E o49K.symm rfl
    replace p45 := And.intro (p45.1.resolve_right (fun q => by (first | decide +kernel | omega))) p45.2
    refine N_putI fp_Mod_66 sk_116 rfl d_Mod_readLineOf_73 (fun h56 eh56 => ?_)
    have hI57 : Inv h56 := inv_put (lo := 0) (hi := 4) hI46 eh56 rfl z43E (by (first | decide +kernel | omega))
    have f58 : fr S_Mod_readLineOfX_0 h h56 := fr_put f47 eh56 rfl
    refine V_goto 152 d_Mod_readLineOf_76 (by decide) ?_
    exact V_vret rfl d_Mod_readLineOf_152 ⟨rfl, ⟨hI57, f58, o48, o48Z, o48E, (kn_nei eh56 o48K (by decide)), o49, o49Z, o49E, (kn_nei eh56 o49K (by decide)), o50, o50Z, o50E, (kn_nei eh56 o50K (by decide)), o51, o51Z, o51E, (kn_nei eh56 o51K (by decide)), o52, o52Z, o52E, (kn_nei eh56 o52K (by decide)), o53, o53Z, o53E, (kn_nei eh56 o53K (by decide)), ⟨Or.inl ⟨by (first | decide +kernel | omega), (show x_l0 b T p0 = (x_cN b (x_en b p0) 2 4, x_fr b (x_en b p0)) from by unfold x_l0; rw [x_sq_n (c := x_cN b p0 2 4) (by (first | decide +kernel | omega)), x_sq_y (c := x_cN b (x_en b p0) 2 4) (by (first | decide +kernel | omega))]).trans (pq (by (first | decide +kernel | omega)) (by (first | decide +kernel | omega)))⟩, by (first | decide +kernel | omega), by (first | decide +kernel | omega), by (first | decide +kernel | omega)⟩⟩⟩
  ·
    replace p6 := And.intro ((p6.1.resolve_left (fun q => by (first | decide +kernel | omega))).resolve_left (fun q => by (first | decide +kernel | omega))).2.1 (And.intro ((p6.1.resolve_left (fun q => by (first | decide +kernel | omega))).resolve_left (fun q => by (first | decide +kernel | omega))).2.2.1 (And.intro (((p6.1.resolve_left (fun q => by (first | decide +kernel | omega))).resolve_left (fun q => by (first | decide +kernel | omega))).2.2.2.resolve_left (fun q => by (first | decide +kernel | omega))) p6.2))
    have g59 := x_cN_0 p6.1
    refine N_putI fp_Mod_62 sk_116 rfl d_Mod_readLineOf_63 (fun h60 eh60 => ?_)
    have hI61 : Inv h60 := inv_put (lo := 0) (hi := 4) hI7 eh60 rfl z4E (by (first | decide +kernel | omega))
    have f62 : fr S_Mod_readLineOfX_0 h h60 := fr_put f8 eh60 rfl
    have R63 : RM h60 T (x_up D 144 (x_vl b p0)) := RM_put R15 eh60 (Or.inr ⟨rfl, by decide, by decide, rfl⟩) (z4E.trans (by (first | decide +kernel | omega))) (by (first | decide +kernel | omega))
    refine V_aload_n 0 d_Mod_readLineOf_66 rfl rfl ?_
    refine V_aload_n 0 d_Mod_readLineOf_67 rfl rfl ?_
    refine V_iconst 2 d_Mod_readLineOf_68 (by decide) ?_
    refine V_iconst 4 d_Mod_readLineOf_69 (by decide) ?_
    refine N_callVI [.int 2, .int 4] [.ref 116] cv_Mod_158 sk_116 rfl d_Mod_readLineOf_70 rfl (Nat.le_of_ble_eq_true rfl) (by decide) (by decide) (c_Mod_readNumberX h60 b (x_en b p0) hI61 2 2 tc_2 4 4 tc_4 s sZ sE (kn_nei eh60 (kn_call fh5 sK rfl) (by decide)) o9 o9Z o9E (kn_nei eh60 o9K (by decide)) o10 o10Z o10E (kn_nei eh60 o10K (by decide)) o11 o11Z o11E (kn_nei eh60 o11K (by decide)) o12 o12Z o12E (kn_nei eh60 o12K (by decide)) o13 o13Z o13E (kn_nei eh60 o13K (by decide)) o14 o14Z o14E (kn_nei eh60 o14K (by decide)) (TP_fr f62 (fun _ => rfl) hy0) (by (first | decide +kernel | omega)) (Or.inr ⟨by (first | decide +kernel | omega), by (first | decide +kernel | omega), by (first | decide +kernel | omega), by (first | decide +kernel | omega), by (first | decide +kernel | omega), by (first | decide +kernel | omega), by (first | decide +kernel | omega), by (first | decide +kernel | omega), by (first | decide +kernel | omega), by (first | decide +kernel | omega), by (first | decide +kernel | omega)⟩)) (fun z64 h65 z64Z z64E p66 => ?_)
    obtain ⟨hI67, fh65, o69, o69Z, o69E, o69K, o70, o70Z, o70E, o70K, o71, o71Z, o71E, o71K, o72, o72Z, o72E, o72K, o73, o73Z, o73E, o73K, o74, o74Z, o74E, o74K, p66⟩ := p66
    have f68 : fr S_Mod_readLineOfX_0 h h65 := fr_call f62 fh65 rfl
    have R75 : RM h65 T (x_up D 144 (x_vl b p0)) := RM_fr fh65 rfl R63
    have g76 : 0 ≤ o69Z ∧ o69Z ≤ 160 := inv_at hI67 o69E o69K.symm rfl
    have g77 : 0 ≤ o70Z ∧ o70Z ≤ 160 := inv_at hI67 o70E o70K.symm rfl
    rcases (by (first | decide +kernel | omega) : o73Z ≠ 0 ∧ x_cN b (x_en b p0) 2 4 ≠ 0 ∨ o73Z ≠ 0 ∧ x_cN b (x_en b p0) 2 4 = 0 ∨ o73Z = 0) with c78 | c78 | c78
    ·
      replace p66 := And.intro ((p66.1.resolve_left (fun q => by (first | decide +kernel | omega))).resolve_right (fun q => by (first | decide +kernel | omega))) p66.2
      refine N_putI fp_Mod_66 sk_116 rfl d_Mod_readLineOf_73 (fun h79 eh79 => ?_)
      have hI80 : Inv h79 := inv_put (lo := 0) (hi := 4) hI67 eh79 rfl z64E (by (first | decide +kernel | omega))
      have f81 : fr S_Mod_readLineOfX_0 h h79 := fr_put f68 eh79 rfl
      refine V_goto 152 d_Mod_readLineOf_76 (by decide) ?_
      exact V_vret rfl d_Mod_readLineOf_152 ⟨rfl, ⟨hI80, f81, o69, o69Z, o69E, (kn_nei eh79 o69K (by decide)), o70, o70Z, o70E, (kn_nei eh79 o70K (by decide)), o71, o71Z, o71E, (kn_nei eh79 o71K (by decide)), o72, o72Z, o72E, (kn_nei eh79 o72K (by decide)), o73, o73Z, o73E, (kn_nei eh79 o73K (by decide)), o74, o74Z, o74E, (kn_nei eh79 o74K (by decide)), ⟨Or.inl ⟨by (first | decide +kernel | omega), (show x_l0 b T p0 = (x_cN b (x_en b p0) 2 4, x_fr b (x_en b p0)) from by unfold x_l0; rw [x_sq_n (c := x_cN b p0 2 4) (by (first | decide +kernel | omega)), x_sq_y (c := x_cN b (x_en b p0) 2 4) (by (first | decide +kernel | omega))]).trans (pq (by (first | decide +kernel | omega)) (by (first | decide +kernel | omega)))⟩, by (first | decide +kernel | omega), by (first | decide +kernel | omega), by (first | decide +kernel | omega)⟩⟩⟩
    ·
      replace p66 := And.intro ((p66.1.resolve_left (fun q => by (first | decide +kernel | omega))).resolve_left (fun q => by (first | decide +kernel | omega))).2.1 (And.intro ((p66.1.resolve_left (fun q => by (first | decide +kernel | omega))).resolve_left (fun q => by (first | decide +kernel | omega))).2.2.1 (And.intro (((p66.1.resolve_left (fun q => by (first | decide +kernel | omega))).resolve_left (fun q => by (first | decide +kernel | omega))).2.2.2.resolve_right (fun q => by (first | decide +kernel | omega))) p66.2))
      have g82 := x_cN_0 p66.1
      have g83 := x_cS_4 (b := b) (p := (x_en b (x_en b p0))) (by (first | decide +kernel | omega))
      refine N_putI fp_Mod_66 sk_116 rfl d_Mod_readLineOf_73 (fun h84 eh84 => ?_)
      have hI85 : Inv h84 := inv_put (lo := 0) (hi := 4) hI67 eh84 rfl z64E (by (first | decide +kernel | omega))
      have f86 : fr S_Mod_readLineOfX_0 h h84 := fr_put f68 eh84 rfl
      refine V_goto 152 d_Mod_readLineOf_76 (by decide) ?_
      exact V_vret rfl d_Mod_readLineOf_152 ⟨rfl, ⟨hI85, f86, o69, o69Z, o69E, (kn_nei eh84 o69K (by decide)), o70, o70Z, o70E, (kn_nei eh84 o70K (by decide)), o71, o71Z, o71E, (kn_nei eh84 o71K (by decide)), o72, o72Z, o72E, (kn_nei eh84 o72K (by decide)), o73, o73Z, o73E, (kn_nei eh84 o73K (by decide)), o74, o74Z, o74E, (kn_nei eh84 o74K (by decide)), ⟨Or.inl ⟨by (first | decide +kernel | omega), (show x_l0 b T p0 = (x_cS b (x_en b (x_en b p0)), x_fr b (x_en b (x_en b p0))) from by unfold x_l0; rw [x_sq_n (c := x_cN b p0 2 4) (by (first | decide +kernel | omega)), x_sq_n (c := x_cN b (x_en b p0) 2 4) (by (first | decide +kernel | omega)), x_sq_y (c := x_cS b (x_en b (x_en b p0))) (by (first | decide +kernel | omega))]).trans (pq (by (first | decide +kernel | omega)) (by (first | decide +kernel | omega)))⟩, by (first | decide +kernel | omega), by (first | decide +kernel | omega), by (first | decide +kernel | omega)⟩⟩⟩
    ·
      replace p66 := And.intro ((p66.1.resolve_left (fun q => by (first | decide +kernel | omega))).resolve_left (fun q => by (first | decide +kernel | omega))).2.1 (And.intro ((p66.1.resolve_left (fun q => by (first | decide +kernel | omega))).resolve_left (fun q => by (first | decide +kernel | omega))).2.2.1 (And.intro (((p66.1.resolve_left (fun q => by (first | decide +kernel | omega))).resolve_left (fun q => by (first | decide +kernel | omega))).2.2.2.resolve_left (fun q => by (first | decide +kernel | omega))) p66.2))
      have g87 := x_cN_0 p66.1
      refine N_putI fp_Mod_66 sk_116 rfl d_Mod_readLineOf_73 (fun h88 eh88 => ?_)
      have hI89 : Inv h88 := inv_put (lo := 0) (hi := 4) hI67 eh88 rfl z64E (by (first | decide +kernel | omega))
      have f90 : fr S_Mod_readLineOfX_0 h h88 := fr_put f68 eh88 rfl
      have R91 : RM h88 T (x_up (x_up D 144 (x_vl b p0)) 145 (x_vl b (x_en b p0))) := RM_put R75 eh88 (Or.inr ⟨rfl, by decide, by decide, rfl⟩) (z64E.trans (by (first | decide +kernel | omega))) (by (first | decide +kernel | omega))
      refine V_goto 152 d_Mod_readLineOf_76 (by decide) ?_
      exact V_vret rfl d_Mod_readLineOf_152 ⟨rfl, ⟨hI89, f90, o69, o69Z, o69E, (kn_nei eh88 o69K (by decide)), o70, o70Z, o70E, (kn_nei eh88 o70K (by decide)), o71, o71Z, o71E, (kn_nei eh88 o71K (by decide)), o72, o72Z, o72E, (kn_nei eh88 o72K (by decide)), o73, o73Z, o73E, (kn_nei eh88 o73K (by decide)), o74, o74Z, o74E, (kn_nei eh88 o74K (by decide)), ⟨Or.inr ⟨by (first | decide +kernel | omega), by unfold x_l0; rw [x_sq_n (c := x_cN b p0 2 4) (by (first | decide +kernel | omega)), x_sq_n (c := x_cN b (x_en b p0) 2 4) (by (first | decide +kernel | omega))], p66.2.2.1.2, R91⟩, by (first | decide +kernel | omega), by (first | decide +kernel | omega), by (first | decide +kernel | omega)⟩⟩⟩
def S_Mod_readLineOfX_1 : List (Nat × Option Nat) := [(116, some 16), (116, some 17), (116, some 18), (116, some 19), (116, some 20), (116, some 21), (116, some 9)]
abbrev q_Mod_readLineOfX_1 (h : Hp) (b : Int → Int) (T : Nat → Int → Int) (D : Nat → Int) (p0 : Int) (s : Int32) (sZ : Int) (p : Int32) (pZ : Int) (g : Int32) (gZ : Int) (k : Int32) (kZ : Int) (v : Int32) (vZ : Int) (w : Int32) (wZ : Int) (a : Int32) (aZ : Int) : Option Value → Hp → Prop := pVd (fun h' => Inv h' ∧ fr S_Mod_readLineOfX_1 h h' ∧ ∃ (q : Int32) (qZ : Int), q.toInt = qZ ∧ h'.1 116 16 = q ∧ ∃ (f : Int32) (fZ : Int), f.toInt = fZ ∧ h'.1 116 17 = f ∧ ∃ (m : Int32) (mZ : Int), m.toInt = mZ ∧ h'.1 116 18 = m ∧ ∃ (x : Int32) (xZ : Int), x.toInt = xZ ∧ h'.1 116 19 = x ∧ ∃ (u : Int32) (uZ : Int), u.toInt = uZ ∧ h'.1 116 20 = u ∧ ∃ (y : Int32) (yZ : Int), y.toInt = yZ ∧ h'.1 116 21 = y ∧ ((uZ ≠ 0 ∧ x_l6 b T p0 = (uZ, yZ) ∨ uZ = 0 ∧ x_l6 b T p0 = x_sq (x_cS b (x_en b p0)) (x_fr b (x_en b p0)) (0, x_en b (x_en b p0)) ∧ (fZ = x_fr b (x_en b p0) ∧ mZ = x_kd b (x_en b p0) ∧ mZ ≠ 4 ∧ 0 ≤ mZ ∧ mZ ≤ 3 ∧ qZ = x_en b (x_en b p0) ∧ (mZ ≠ 2 ∨ xZ = x_vl b (x_en b p0) ∧ 0 ≤ xZ ∧ xZ ≤ 99) ∧ (x_en b p0) ≤ fZ ∧ fZ ≤ qZ ∧ qZ ≤ sZ ∧ (mZ = 0 ∨ fZ < qZ)) ∧ RM h' T (x_up D 146 (x_vl b p0))) ∧ 0 ≤ qZ ∧ qZ ≤ sZ ∧ 0 ≤ uZ))
set_option maxRecDepth 100000 in
theorem c_Mod_readLineOfX_1 (h : Hp) (b : Int → Int) (T : Nat → Int → Int) (D : Nat → Int) (p0 : Int) (hI : Inv h) (s : Int32) (sZ : Int) (sE : s.toInt = sZ) (sK : h.1 116 15 = s) (p : Int32) (pZ : Int) (pE : p.toInt = pZ) (pK : h.1 116 16 = p) (g : Int32) (gZ : Int) (gE : g.toInt = gZ) (gK : h.1 116 17 = g) (k : Int32) (kZ : Int) (kE : k.toInt = kZ) (kK : h.1 116 18 = k) (v : Int32) (vZ : Int) (vE : v.toInt = vZ) (vK : h.1 116 19 = v) (w : Int32) (wZ : Int) (wE : w.toInt = wZ) (wK : h.1 116 20 = w) (a : Int32) (aZ : Int) (aE : a.toInt = aZ) (aK : h.1 116 21 = a) (hy0 : TP h 121 sZ b) (hy1 : 0 ≤ pZ ∧ pZ ≤ sZ ∧ wZ = 0) (hy2 : gZ = x_fr b p0 ∧ kZ = x_kd b p0 ∧ kZ ≠ 4 ∧ 0 ≤ kZ ∧ kZ ≤ 3 ∧ pZ = x_en b p0 ∧ (kZ ≠ 2 ∨ vZ = x_vl b p0 ∧ 0 ≤ vZ ∧ vZ ≤ 99) ∧ p0 ≤ gZ ∧ gZ ≤ pZ ∧ pZ ≤ sZ ∧ (kZ = 0 ∨ gZ < pZ)) (hy3 : RM h T D) : Ct y_Mod_readLineOf b_Mod_readLineOf 3 none 3 70 [.ref 116, .int 1] h (q_Mod_readLineOfX_1 h b T D p0 s sZ p pZ g gZ k kZ v vZ w wZ a aZ) := by
  refine ct_ow R_Mod [some (.ref 116), some (.int 1), none] rfl (by decide) rfl (Nat.le_of_ble_eq_true rfl) ?_
  have f0 : fr S_Mod_readLineOfX_1 h h := fr_rf
  have g1 : 0 ≤ sZ ∧ sZ ≤ 160 := inv_at hI sE sK.symm rfl
  have g2 : 0 ≤ pZ ∧ pZ ≤ 160 := inv_at hI pE pK.symm rfl
  have g3 : 0 ≤ gZ ∧ gZ ≤ 160 := inv_at hI gE gK.symm rfl
  refine V_iload_n 1 d_Mod_readLineOf_0 rfl rfl ?_
  refine V_tabIn 79 tc_1 d_Mod_readLineOf_1 (by decide) (by decide) rfl (by decide) ?_
  refine V_aload_n 0 d_Mod_readLineOf_79 rfl rfl ?_
  refine V_aload_n 0 d_Mod_readLineOf_80 rfl rfl ?_
  refine V_iconst 1 d_Mod_readLineOf_81 (by decide) ?_
  refine V_bipush 9 d_Mod_readLineOf_82 (by decide) ?_
  refine N_callVI [.int 1, .int 9] [.ref 116] cv_Mod_158 sk_116 rfl d_Mod_readLineOf_84 rfl (Nat.le_of_ble_eq_true rfl) (by decide) (by decide) (c_Mod_readNumberX h b p0 hI 1 1 tc_1 9 9 tc_9 s sZ sE sK p pZ pE pK g gZ gE gK k kZ kE kK v vZ vE vK w wZ wE wK a aZ aE aK (TP_fr f0 (fun _ => rfl) hy0) (by (first | decide +kernel | omega)) (Or.inr ⟨by (first | decide +kernel | omega), by (first | decide +kernel | omega), by (first | decide +kernel | omega), by (first | decide +kernel | omega), by (first | decide +kernel | omega), by (first | decide +kernel | omega), by (first | decide +kernel | omega), by (first | decide +kernel | omega), by (first | decide +kernel | omega), by (first | decide +kernel | omega), by (first | decide +kernel | omega)⟩)) (fun z4 h5 z4Z z4E p6 => ?_)
  obtain ⟨hI7, fh5, o9, o9Z, o9E, o9K, o10, o10Z, o10E, o10K, o11, o11Z, o11E, o11K, o12, o12Z, o12E, o12K, o13, o13Z, o13E, o13K, o14, o14Z, o14E, o14K, p6⟩ := p6
  have f8 : fr S_Mod_readLineOfX_1 h h5 := fr_call f0 fh5 rfl
  have R15 : RM h5 T D := RM_fr fh5 rfl hy3
  have g16 : 0 ≤ o9Z ∧ o9Z ≤ 160 := inv_at hI7 o9E o9K.symm rfl
  have g17 : 0 ≤ o10Z ∧ o10Z ≤ 160 := inv_at hI7 o10E o10K.symm rfl
  rcases (by (first | decide +kernel | omega) : o13Z ≠ 0 ∧ x_cN b p0 1 9 ≠ 0 ∨ o13Z ≠ 0 ∧ x_cN b p0 1 9 = 0 ∨ o13Z = 0) with c18 | c18 | c18
  ·
    replace p6 := And.intro ((p6.1.resolve_left (fun q => by (first | decide +kernel | omega))).resolve_right (fun q => by (first | decide +kernel | omega))) p6.2
    refine N_putI fp_Mod_69 sk_116 rfl d_Mod_readLineOf_87 (fun h19 eh19 => ?_)
    have hI20 : Inv h19 := inv_full hI7 eh19 rfl
    have f21 : fr S_Mod_readLineOfX_1 h h19 := fr_put f8 eh19 rfl
    refine V_goto 152 d_Mod_readLineOf_90 (by decide) ?_
    exact V_vret rfl d_Mod_readLineOf_152 ⟨rfl, ⟨hI20, f21, o9, o9Z, o9E, (kn_nei eh19 o9K (by decide)), o10, o10Z, o10E, (kn_nei eh19 o10K (by decide)), o11, o11Z, o11E, (kn_nei eh19 o11K (by decide)), o12, o12Z, o12E, (kn_nei eh19 o12K (by decide)), o13, o13Z, o13E, (kn_nei eh19 o13K (by decide)), o14, o14Z, o14E, (kn_nei eh19 o14K (by decide)), ⟨Or.inl ⟨by (first | decide +kernel | omega), (show x_l6 b T p0 = (x_cN b p0 1 9, x_fr b p0) from by unfold x_l6; rw [x_sq_y (c := x_cN b p0 1 9) (by (first | decide +kernel | omega))]).trans (pq (by (first | decide +kernel | omega)) (by (first | decide +kernel | omega)))⟩, by (first | decide +kernel | omega), by (first | decide +kernel | omega), by (first | decide +kernel | omega)⟩⟩⟩
  ·
    replace p6 := And.intro ((p6.1.resolve_left (fun q => by (first | decide +kernel | omega))).resolve_left (fun q => by (first | decide +kernel | omega))).2.1 (And.intro ((p6.1.resolve_left (fun q => by (first | decide +kernel | omega))).resolve_left (fun q => by (first | decide +kernel | omega))).2.2.1 (And.intro (((p6.1.resolve_left (fun q => by (first | decide +kernel | omega))).resolve_left (fun q => by (first | decide +kernel | omega))).2.2.2.resolve_right (fun q => by (first | decide +kernel | omega))) p6.2))
    have g22 := x_cN_0 p6.1
    have g23 := x_cS_4 (b := b) (p := (x_en b p0)) (by (first | decide +kernel | omega))
    refine N_putI fp_Mod_69 sk_116 rfl d_Mod_readLineOf_87 (fun h24 eh24 => ?_)
    have hI25 : Inv h24 := inv_full hI7 eh24 rfl
    have f26 : fr S_Mod_readLineOfX_1 h h24 := fr_put f8 eh24 rfl
    refine V_goto 152 d_Mod_readLineOf_90 (by decide) ?_
    exact V_vret rfl d_Mod_readLineOf_152 ⟨rfl, ⟨hI25, f26, o9, o9Z, o9E, (kn_nei eh24 o9K (by decide)), o10, o10Z, o10E, (kn_nei eh24 o10K (by decide)), o11, o11Z, o11E, (kn_nei eh24 o11K (by decide)), o12, o12Z, o12E, (kn_nei eh24 o12K (by decide)), o13, o13Z, o13E, (kn_nei eh24 o13K (by decide)), o14, o14Z, o14E, (kn_nei eh24 o14K (by decide)), ⟨Or.inl ⟨by (first | decide +kernel | omega), (show x_l6 b T p0 = (x_cS b (x_en b p0), x_fr b (x_en b p0)) from by unfold x_l6; rw [x_sq_n (c := x_cN b p0 1 9) (by (first | decide +kernel | omega)), x_sq_y (c := x_cS b (x_en b p0)) (by (first | decide +kernel | omega))]).trans (pq (by (first | decide +kernel | omega)) (by (first | decide +kernel | omega)))⟩, by (first | decide +kernel | omega), by (first | decide +kernel | omega), by (first | decide +kernel | omega)⟩⟩⟩
  ·
    replace p6 := And.intro ((p6.1.resolve_left (fun q => by (first | decide +kernel | omega))).resolve_left (fun q => by (first | decide +kernel | omega))).2.1 (And.intro ((p6.1.resolve_left (fun q => by (first | decide +kernel | omega))).resolve_left (fun q => by (first | decide +kernel | omega))).2.2.1 (And.intro (((p6.1.resolve_left (fun q => by (first | decide +kernel | omega))).resolve_left (fun q => by (first | decide +kernel | omega))).2.2.2.resolve_left (fun q => by (first | decide +kernel | omega))) p6.2))
    have g27 := x_cN_0 p6.1
    refine N_putI fp_Mod_69 sk_116 rfl d_Mod_readLineOf_87 (fun h28 eh28 => ?_)
    have hI29 : Inv h28 := inv_full hI7 eh28 rfl
    have f30 : fr S_Mod_readLineOfX_1 h h28 := fr_put f8 eh28 rfl
    have R31 : RM h28 T (x_up D 146 (x_vl b p0)) := RM_put R15 eh28 (Or.inr ⟨rfl, by decide, by decide, rfl⟩) (z4E.trans (by (first | decide +kernel | omega))) (by (first | decide +kernel | omega))
    refine V_goto 152 d_Mod_readLineOf_90 (by decide) ?_
    exact V_vret rfl d_Mod_readLineOf_152 ⟨rfl, ⟨hI29, f30, o9, o9Z, o9E, (kn_nei eh28 o9K (by decide)), o10, o10Z, o10E, (kn_nei eh28 o10K (by decide)), o11, o11Z, o11E, (kn_nei eh28 o11K (by decide)), o12, o12Z, o12E, (kn_nei eh28 o12K (by decide)), o13, o13Z, o13E, (kn_nei eh28 o13K (by decide)), o14, o14Z, o14E, (kn_nei eh28 o14K (by decide)), ⟨Or.inr ⟨by (first | decide +kernel | omega), by unfold x_l6; rw [x_sq_n (c := x_cN b p0 1 9) (by (first | decide +kernel | omega))], p6.2.2.1.2, R31⟩, by (first | decide +kernel | omega), by (first | decide +kernel | omega), by (first | decide +kernel | omega)⟩⟩⟩
def S_Mod_readLineOfX_2 : List (Nat × Option Nat) := [(116, some 16), (116, some 17), (116, some 18), (116, some 19), (116, some 20), (116, some 21), (116, some 10)]
abbrev q_Mod_readLineOfX_2 (h : Hp) (b : Int → Int) (T : Nat → Int → Int) (D : Nat → Int) (p0 : Int) (s : Int32) (sZ : Int) (p : Int32) (pZ : Int) (g : Int32) (gZ : Int) (k : Int32) (kZ : Int) (v : Int32) (vZ : Int) (w : Int32) (wZ : Int) (a : Int32) (aZ : Int) : Option Value → Hp → Prop := pVd (fun h' => Inv h' ∧ fr S_Mod_readLineOfX_2 h h' ∧ ∃ (q : Int32) (qZ : Int), q.toInt = qZ ∧ h'.1 116 16 = q ∧ ∃ (f : Int32) (fZ : Int), f.toInt = fZ ∧ h'.1 116 17 = f ∧ ∃ (m : Int32) (mZ : Int), m.toInt = mZ ∧ h'.1 116 18 = m ∧ ∃ (x : Int32) (xZ : Int), x.toInt = xZ ∧ h'.1 116 19 = x ∧ ∃ (u : Int32) (uZ : Int), u.toInt = uZ ∧ h'.1 116 20 = u ∧ ∃ (y : Int32) (yZ : Int), y.toInt = yZ ∧ h'.1 116 21 = y ∧ ((uZ ≠ 0 ∧ x_l7 b T p0 = (uZ, yZ) ∨ uZ = 0 ∧ x_l7 b T p0 = x_sq (x_cS b (x_en b p0)) (x_fr b (x_en b p0)) (0, x_en b (x_en b p0)) ∧ (fZ = x_fr b (x_en b p0) ∧ mZ = x_kd b (x_en b p0) ∧ mZ ≠ 4 ∧ 0 ≤ mZ ∧ mZ ≤ 3 ∧ qZ = x_en b (x_en b p0) ∧ (mZ ≠ 2 ∨ xZ = x_vl b (x_en b p0) ∧ 0 ≤ xZ ∧ xZ ≤ 99) ∧ (x_en b p0) ≤ fZ ∧ fZ ≤ qZ ∧ qZ ≤ sZ ∧ (mZ = 0 ∨ fZ < qZ)) ∧ RM h' T (x_up D 147 (x_vl b p0))) ∧ 0 ≤ qZ ∧ qZ ≤ sZ ∧ 0 ≤ uZ))
set_option maxRecDepth 100000 in
theorem c_Mod_readLineOfX_2 (h : Hp) (b : Int → Int) (T : Nat → Int → Int) (D : Nat → Int) (p0 : Int) (hI : Inv h) (s : Int32) (sZ : Int) (sE : s.toInt = sZ) (sK : h.1 116 15 = s) (p : Int32) (pZ : Int) (pE : p.toInt = pZ) (pK : h.1 116 16 = p) (g : Int32) (gZ : Int) (gE : g.toInt = gZ) (gK : h.1 116 17 = g) (k : Int32) (kZ : Int) (kE : k.toInt = kZ) (kK : h.1 116 18 = k) (v : Int32) (vZ : Int) (vE : v.toInt = vZ) (vK : h.1 116 19 = v) (w : Int32) (wZ : Int) (wE : w.toInt = wZ) (wK : h.1 116 20 = w) (a : Int32) (aZ : Int) (aE : a.toInt = aZ) (aK : h.1 116 21 = a) (hy0 : TP h 121 sZ b) (hy1 : 0 ≤ pZ ∧ pZ ≤ sZ ∧ wZ = 0) (hy2 : gZ = x_fr b p0 ∧ kZ = x_kd b p0 ∧ kZ ≠ 4 ∧ 0 ≤ kZ ∧ kZ ≤ 3 ∧ pZ = x_en b p0 ∧ (kZ ≠ 2 ∨ vZ = x_vl b p0 ∧ 0 ≤ vZ ∧ vZ ≤ 99) ∧ p0 ≤ gZ ∧ gZ ≤ pZ ∧ pZ ≤ sZ ∧ (kZ = 0 ∨ gZ < pZ)) (hy3 : RM h T D) : Ct y_Mod_readLineOf b_Mod_readLineOf 3 none 3 70 [.ref 116, .int 2] h (q_Mod_readLineOfX_2 h b T D p0 s sZ p pZ g gZ k kZ v vZ w wZ a aZ) := by
  refine ct_ow R_Mod [some (.ref 116), some (.int 2), none] rfl (by decide) rfl (Nat.le_of_ble_eq_true rfl) ?_
  have f0 : fr S_Mod_readLineOfX_2 h h := fr_rf
  have g1 : 0 ≤ sZ ∧ sZ ≤ 160 := inv_at hI sE sK.symm rfl
  have g2 : 0 ≤ pZ ∧ pZ ≤ 160 := inv_at hI pE pK.symm rfl
  have g3 : 0 ≤ gZ ∧ gZ ≤ 160 := inv_at hI gE gK.symm rfl
  refine V_iload_n 1 d_Mod_readLineOf_0 rfl rfl ?_
  refine V_tabIn 93 tc_2 d_Mod_readLineOf_1 (by decide) (by decide) rfl (by decide) ?_
  refine V_aload_n 0 d_Mod_readLineOf_93 rfl rfl ?_
  refine V_aload_n 0 d_Mod_readLineOf_94 rfl rfl ?_
  refine V_iconst 1 d_Mod_readLineOf_95 (by decide) ?_
  refine V_bipush 99 d_Mod_readLineOf_96 (by decide) ?_
  refine N_callVI [.int 1, .int 99] [.ref 116] cv_Mod_158 sk_116 rfl d_Mod_readLineOf_98 rfl (Nat.le_of_ble_eq_true rfl) (by decide) (by decide) (c_Mod_readNumberX h b p0 hI 1 1 tc_1 99 99 tc_99 s sZ sE sK p pZ pE pK g gZ gE gK k kZ kE kK v vZ vE vK w wZ wE wK a aZ aE aK (TP_fr f0 (fun _ => rfl) hy0) (by (first | decide +kernel | omega)) (Or.inr ⟨by (first | decide +kernel | omega), by (first | decide +kernel | omega), by (first | decide +kernel | omega), by (first | decide +kernel | omega), by (first | decide +kernel | omega), by (first | decide +kernel | omega), by (first | decide +kernel | omega), by (first | decide +kernel | omega), by (first | decide +kernel | omega), by (first | decide +kernel | omega), by (first | decide +kernel | omega)⟩)) (fun z4 h5 z4Z z4E p6 => ?_)
  obtain ⟨hI7, fh5, o9, o9Z, o9E, o9K, o10, o10Z, o10E, o10K, o11, o11Z, o11E, o11K, o12, o12Z, o12E, o12K, o13, o13Z, o13E, o13K, o14, o14Z, o14E, o14K, p6⟩ := p6
  have f8 : fr S_Mod_readLineOfX_2 h h5 := fr_call f0 fh5 rfl
  have R15 : RM h5 T D := RM_fr fh5 rfl hy3
  have g16 : 0 ≤ o9Z ∧ o9Z ≤ 160 := inv_at hI7 o9E o9K.symm rfl
  have g17 : 0 ≤ o10Z ∧ o10Z ≤ 160 := inv_at hI7 o10E o10K.symm rfl
  rcases (by (first | decide +kernel | omega) : o13Z ≠ 0 ∧ x_cN b p0 1 99 ≠ 0 ∨ o13Z ≠ 0 ∧ x_cN b p0 1 99 = 0 ∨ o13Z = 0) with c18 | c18 | c18
  ·
    replace p6 := And.intro ((p6.1.resolve_left (fun q => by (first | decide +kernel | omega))).resolve_right (fun q => by (first | decide +kernel | omega))) p6.2
    refine N_putI fp_Mod_72 sk_116 rfl d_Mod_readLineOf_101 (fun h19 eh19 => ?_)
    have hI20 : Inv h19 := inv_full hI7 eh19 rfl
    have f21 : fr S_Mod_readLineOfX_2 h h19 := fr_put f8 eh19 rfl
    refine V_goto 152 d_Mod_readLineOf_104 (by decide) ?_
    exact V_vret rfl d_Mod_readLineOf_152 ⟨rfl, ⟨hI20, f21, o9, o9Z, o9E, (kn_nei eh19 o9K (by decide)), o10, o10Z, o10E, (kn_nei eh19 o10K (by decide)), o11, o11Z, o11E, (kn_nei eh19 o11K (by decide)), o12, o12Z, o12E, (kn_nei eh19 o12K (by decide)), o13, o13Z, o13E, (kn_nei eh19 o13K (by decide)), o14, o14Z, o14E, (kn_nei eh19 o14K (by decide)), ⟨Or.inl ⟨by (first | decide +kernel | omega), (show x_l7 b T p0 = (x_cN b p0 1 99, x_fr b p0) from by unfold x_l7; rw [x_sq_y (c := x_cN b p0 1 99) (by (first | decide +kernel | omega))]).trans (pq (by (first | decide +kernel | omega)) (by (first | decide +kernel | omega)))⟩, by (first | decide +kernel | omega), by (first | decide +kernel | omega), by (first | decide +kernel | omega)⟩⟩⟩
  ·
    replace p6 := And.intro ((p6.1.resolve_left (fun q => by (first | decide +kernel | omega))).resolve_left (fun q => by (first | decide +kernel | omega))).2.1 (And.intro ((p6.1.resolve_left (fun q => by (first | decide +kernel | omega))).resolve_left (fun q => by (first | decide +kernel | omega))).2.2.1 (And.intro (((p6.1.resolve_left (fun q => by (first | decide +kernel | omega))).resolve_left (fun q => by (first | decide +kernel | omega))).2.2.2.resolve_right (fun q => by (first | decide +kernel | omega))) p6.2))
    have g22 := x_cN_0 p6.1
    have g23 := x_cS_4 (b := b) (p := (x_en b p0)) (by (first | decide +kernel | omega))
    refine N_putI fp_Mod_72 sk_116 rfl d_Mod_readLineOf_101 (fun h24 eh24 => ?_)
    have hI25 : Inv h24 := inv_full hI7 eh24 rfl
    have f26 : fr S_Mod_readLineOfX_2 h h24 := fr_put f8 eh24 rfl
    refine V_goto 152 d_Mod_readLineOf_104 (by decide) ?_
    exact V_vret rfl d_Mod_readLineOf_152 ⟨rfl, ⟨hI25, f26, o9, o9Z, o9E, (kn_nei eh24 o9K (by decide)), o10, o10Z, o10E, (kn_nei eh24 o10K (by decide)), o11, o11Z, o11E, (kn_nei eh24 o11K (by decide)), o12, o12Z, o12E, (kn_nei eh24 o12K (by decide)), o13, o13Z, o13E, (kn_nei eh24 o13K (by decide)), o14, o14Z, o14E, (kn_nei eh24 o14K (by decide)), ⟨Or.inl ⟨by (first | decide +kernel | omega), (show x_l7 b T p0 = (x_cS b (x_en b p0), x_fr b (x_en b p0)) from by unfold x_l7; rw [x_sq_n (c := x_cN b p0 1 99) (by (first | decide +kernel | omega)), x_sq_y (c := x_cS b (x_en b p0)) (by (first | decide +kernel | omega))]).trans (pq (by (first | decide +kernel | omega)) (by (first | decide +kernel | omega)))⟩, by (first | decide +kernel | omega), by (first | decide +kernel | omega), by (first | decide +kernel | omega)⟩⟩⟩
  ·
    replace p6 := And.intro ((p6.1.resolve_left (fun q => by (first | decide +kernel | omega))).resolve_left (fun q => by (first | decide +kernel | omega))).2.1 (And.intro ((p6.1.resolve_left (fun q => by (first | decide +kernel | omega))).resolve_left (fun q => by (first | decide +kernel | omega))).2.2.1 (And.intro (((p6.1.resolve_left (fun q => by (first | decide +kernel | omega))).resolve_left (fun q => by (first | decide +kernel | omega))).2.2.2.resolve_left (fun q => by (first | decide +kernel | omega))) p6.2))
    have g27 := x_cN_0 p6.1
    refine N_putI fp_Mod_72 sk_116 rfl d_Mod_readLineOf_101 (fun h28 eh28 => ?_)
    have hI29 : Inv h28 := inv_full hI7 eh28 rfl
    have f30 : fr S_Mod_readLineOfX_2 h h28 := fr_put f8 eh28 rfl
    have R31 : RM h28 T (x_up D 147 (x_vl b p0)) := RM_put R15 eh28 (Or.inr ⟨rfl, by decide, by decide, rfl⟩) (z4E.trans (by (first | decide +kernel | omega))) (by (first | decide +kernel | omega))
    refine V_goto 152 d_Mod_readLineOf_104 (by decide) ?_
    exact V_vret rfl d_Mod_readLineOf_152 ⟨rfl, ⟨hI29, f30, o9, o9Z, o9E, (kn_nei eh28 o9K (by decide)), o10, o10Z, o10E, (kn_nei eh28 o10K (by decide)), o11, o11Z, o11E, (kn_nei eh28 o11K (by decide)), o12, o12Z, o12E, (kn_nei eh28 o12K (by decide)), o13, o13Z, o13E, (kn_nei eh28 o13K (by decide)), o14, o14Z, o14E, (kn_nei eh28 o14K (by decide)), ⟨Or.inr ⟨by (first | decide +kernel | omega), by unfold x_l7; rw [x_sq_n (c := x_cN b p0 1 99) (by (first | decide +kernel | omega))], p6.2.2.1.2, R31⟩, by (first | decide +kernel | omega), by (first | decide +kernel | omega), by (first | decide +kernel | omega)⟩⟩⟩
def S_Mod_readLineOfX_3 : List (Nat × Option Nat) := [(116, some 16), (116, some 17), (116, some 18), (116, some 19), (116, some 20), (116, some 21), (119, none)]
abbrev q_Mod_readLineOfX_3 (h : Hp) (b : Int → Int) (T : Nat → Int → Int) (D : Nat → Int) (p0 : Int) (s : Int32) (sZ : Int) (p : Int32) (pZ : Int) (g : Int32) (gZ : Int) (k : Int32) (kZ : Int) (v : Int32) (vZ : Int) (w : Int32) (wZ : Int) (a : Int32) (aZ : Int) : Option Value → Hp → Prop := pVd (fun h' => Inv h' ∧ fr S_Mod_readLineOfX_3 h h' ∧ ∃ (q : Int32) (qZ : Int), q.toInt = qZ ∧ h'.1 116 16 = q ∧ ∃ (f : Int32) (fZ : Int), f.toInt = fZ ∧ h'.1 116 17 = f ∧ ∃ (m : Int32) (mZ : Int), m.toInt = mZ ∧ h'.1 116 18 = m ∧ ∃ (x : Int32) (xZ : Int), x.toInt = xZ ∧ h'.1 116 19 = x ∧ ∃ (u : Int32) (uZ : Int), u.toInt = uZ ∧ h'.1 116 20 = u ∧ ∃ (y : Int32) (yZ : Int), y.toInt = yZ ∧ h'.1 116 21 = y ∧ ((uZ ≠ 0 ∧ x_l8 b T p0 = (uZ, yZ) ∨ uZ = 0 ∧ x_l8 b T p0 = x_sq (x_cS b (x_en b (x_en b p0))) (x_fr b (x_en b (x_en b p0))) (0, x_en b (x_en b (x_en b p0))) ∧ (fZ = x_fr b (x_en b (x_en b p0)) ∧ mZ = x_kd b (x_en b (x_en b p0)) ∧ mZ ≠ 4 ∧ 0 ≤ mZ ∧ mZ ≤ 3 ∧ qZ = x_en b (x_en b (x_en b p0)) ∧ (mZ ≠ 2 ∨ xZ = x_vl b (x_en b (x_en b p0)) ∧ 0 ≤ xZ ∧ xZ ≤ 99) ∧ (x_en b (x_en b p0)) ≤ fZ ∧ fZ ≤ qZ ∧ qZ ≤ sZ ∧ (mZ = 0 ∨ fZ < qZ)) ∧ RM h' T (x_up (x_up D 84 (x_nn b p0)) 85 (x_vl b (x_en b p0)))) ∧ 0 ≤ qZ ∧ qZ ≤ sZ ∧ 0 ≤ uZ))
set_option maxRecDepth 100000 in
theorem c_Mod_readLineOfX_3 (h : Hp) (b : Int → Int) (T : Nat → Int → Int) (D : Nat → Int) (p0 : Int) (hI : Inv h) (s : Int32) (sZ : Int) (sE : s.toInt = sZ) (sK : h.1 116 15 = s) (p : Int32) (pZ : Int) (pE : p.toInt = pZ) (pK : h.1 116 16 = p) (g : Int32) (gZ : Int) (gE : g.toInt = gZ) (gK : h.1 116 17 = g) (k : Int32) (kZ : Int) (kE : k.toInt = kZ) (kK : h.1 116 18 = k) (v : Int32) (vZ : Int) (vE : v.toInt = vZ) (vK : h.1 116 19 = v) (w : Int32) (wZ : Int) (wE : w.toInt = wZ) (wK : h.1 116 20 = w) (a : Int32) (aZ : Int) (aE : a.toInt = aZ) (aK : h.1 116 21 = a) (hy0 : TP h 121 sZ b) (hy1 : 0 ≤ pZ ∧ pZ ≤ sZ ∧ wZ = 0) (hy2 : gZ = x_fr b p0 ∧ kZ = x_kd b p0 ∧ kZ ≠ 4 ∧ 0 ≤ kZ ∧ kZ ≤ 3 ∧ pZ = x_en b p0 ∧ (kZ ≠ 2 ∨ vZ = x_vl b p0 ∧ 0 ≤ vZ ∧ vZ ≤ 99) ∧ p0 ≤ gZ ∧ gZ ≤ pZ ∧ pZ ≤ sZ ∧ (kZ = 0 ∨ gZ < pZ)) (hy3 : RM h T D) : Ct y_Mod_readLineOf b_Mod_readLineOf 3 none 4 91 [.ref 116, .int 3] h (q_Mod_readLineOfX_3 h b T D p0 s sZ p pZ g gZ k kZ v vZ w wZ a aZ) := by
  refine ct_ow R_Mod [some (.ref 116), some (.int 3), none] rfl (by decide) rfl (Nat.le_of_ble_eq_true rfl) ?_
  have f0 : fr S_Mod_readLineOfX_3 h h := fr_rf
  have g1 : 0 ≤ sZ ∧ sZ ≤ 160 := inv_at hI sE sK.symm rfl
  have g2 : 0 ≤ pZ ∧ pZ ≤ 160 := inv_at hI pE pK.symm rfl
  have g3 : 0 ≤ gZ ∧ gZ ≤ 160 := inv_at hI gE gK.symm rfl
  refine V_iload_n 1 d_Mod_readLineOf_0 rfl rfl ?_
  refine V_tabIn 107 tc_3 d_Mod_readLineOf_1 (by decide) (by decide) rfl (by decide) ?_
  refine V_aload_n 0 d_Mod_readLineOf_107 rfl rfl ?_
  refine N_callVV [] [] cv_Mod_164 sk_116 rfl d_Mod_readLineOf_108 rfl (Nat.le_of_ble_eq_true rfl) (by decide) (by decide) (c_Mod_readRodX h b T D p0 hI s sZ sE sK p pZ pE pK g gZ gE gK k kZ kE kK v vZ vE vK w wZ wE wK a aZ aE aK (TP_fr f0 (fun _ => rfl) hy0) (by (first | decide +kernel | omega)) ⟨by (first | decide +kernel | omega), by (first | decide +kernel | omega), by (first | decide +kernel | omega), by (first | decide +kernel | omega), by (first | decide +kernel | omega), by (first | decide +kernel | omega), by (first | decide +kernel | omega), by (first | decide +kernel | omega), by (first | decide +kernel | omega), by (first | decide +kernel | omega), by (first | decide +kernel | omega)⟩ hy3) (fun h5 p6 => ?_)
  obtain ⟨hI7, fh5, o9, o9Z, o9E, o9K, o10, o10Z, o10E, o10K, o11, o11Z, o11E, o11K, o12, o12Z, o12E, o12K, o13, o13Z, o13E, o13K, o14, o14Z, o14E, o14K, p6⟩ := p6
  have f8 : fr S_Mod_readLineOfX_3 h h5 := fr_call f0 fh5 rfl
  have g15 : 0 ≤ o9Z ∧ o9Z ≤ 160 := inv_at hI7 o9E o9K.symm rfl
  have g16 : 0 ≤ o10Z ∧ o10Z ≤ 160 := inv_at hI7 o10E o10K.symm rfl
  refine V_goto 152 d_Mod_readLineOf_111 (by decide) ?_
  exact V_vret rfl d_Mod_readLineOf_152 ⟨rfl, ⟨hI7, f8, o9, o9Z, o9E, o9K, o10, o10Z, o10E, o10K, o11, o11Z, o11E, o11K, o12, o12Z, o12E, o12K, o13, o13Z, o13E, o13K, o14, o14Z, o14E, o14K, p6⟩⟩
def S_Mod_readLineOfX_4 : List (Nat × Option Nat) := [(116, some 16), (116, some 17), (116, some 18), (116, some 19), (116, some 20), (116, some 21), (119, none), (120, some 0), (116, some 13)]
abbrev q_Mod_readLineOfX_4 (h : Hp) (b : Int → Int) (T : Nat → Int → Int) (D : Nat → Int) (p0 : Int) (s : Int32) (sZ : Int) (p : Int32) (pZ : Int) (g : Int32) (gZ : Int) (k : Int32) (kZ : Int) (v : Int32) (vZ : Int) (w : Int32) (wZ : Int) (a : Int32) (aZ : Int) (z : Int32) (zZ : Int) (i : Int32) (iZ : Int) : Option Value → Hp → Prop := pVd (fun h' => Inv h' ∧ fr S_Mod_readLineOfX_4 h h' ∧ ∃ (q : Int32) (qZ : Int), q.toInt = qZ ∧ h'.1 116 16 = q ∧ ∃ (f : Int32) (fZ : Int), f.toInt = fZ ∧ h'.1 116 17 = f ∧ ∃ (m : Int32) (mZ : Int), m.toInt = mZ ∧ h'.1 116 18 = m ∧ ∃ (x : Int32) (xZ : Int), x.toInt = xZ ∧ h'.1 116 19 = x ∧ ∃ (u : Int32) (uZ : Int), u.toInt = uZ ∧ h'.1 116 20 = u ∧ ∃ (y : Int32) (yZ : Int), y.toInt = yZ ∧ h'.1 116 21 = y ∧ ((uZ ≠ 0 ∧ x_l1 b T p0 = (uZ, yZ) ∨ uZ = 0 ∧ x_l1 b T p0 = x_sq (x_cS b (x_en b (x_en b p0))) (x_fr b (x_en b (x_en b p0))) (0, x_en b (x_en b (x_en b p0))) ∧ (fZ = x_fr b (x_en b (x_en b p0)) ∧ mZ = x_kd b (x_en b (x_en b p0)) ∧ mZ ≠ 4 ∧ 0 ≤ mZ ∧ mZ ≤ 3 ∧ qZ = x_en b (x_en b (x_en b p0)) ∧ (mZ ≠ 2 ∨ xZ = x_vl b (x_en b (x_en b p0)) ∧ 0 ≤ xZ ∧ xZ ≤ 99) ∧ (x_en b (x_en b p0)) ≤ fZ ∧ fZ ≤ qZ ∧ qZ ≤ sZ ∧ (mZ = 0 ∨ fZ < qZ)) ∧ RM h' (x_upT T 1 (x_vl b p0)) (x_up D (x_vl b p0) (x_vl b (x_en b p0)))) ∧ 0 ≤ qZ ∧ qZ ≤ sZ ∧ 0 ≤ uZ))
set_option maxRecDepth 100000 in
theorem c_Mod_readLineOfX_4 (h : Hp) (b : Int → Int) (T : Nat → Int → Int) (D : Nat → Int) (p0 : Int) (hI : Inv h) (s : Int32) (sZ : Int) (sE : s.toInt = sZ) (sK : h.1 116 15 = s) (p : Int32) (pZ : Int) (pE : p.toInt = pZ) (pK : h.1 116 16 = p) (g : Int32) (gZ : Int) (gE : g.toInt = gZ) (gK : h.1 116 17 = g) (k : Int32) (kZ : Int) (kE : k.toInt = kZ) (kK : h.1 116 18 = k) (v : Int32) (vZ : Int) (vE : v.toInt = vZ) (vK : h.1 116 19 = v) (w : Int32) (wZ : Int) (wE : w.toInt = wZ) (wK : h.1 116 20 = w) (a : Int32) (aZ : Int) (aE : a.toInt = aZ) (aK : h.1 116 21 = a) (z : Int32) (zZ : Int) (zE : z.toInt = zZ) (zK : h.1 120 0 = z) (i : Int32) (iZ : Int) (iE : i.toInt = iZ) (iK : h.1 116 13 = i) (hy0 : TP h 121 sZ b) (hy1 : 0 ≤ pZ ∧ pZ ≤ sZ ∧ wZ = 0) (hy2 : gZ = x_fr b p0 ∧ kZ = x_kd b p0 ∧ kZ ≠ 4 ∧ 0 ≤ kZ ∧ kZ ≤ 3 ∧ pZ = x_en b p0 ∧ (kZ ≠ 2 ∨ vZ = x_vl b p0 ∧ 0 ≤ vZ ∧ vZ ≤ 99) ∧ p0 ≤ gZ ∧ gZ ≤ pZ ∧ pZ ≤ sZ ∧ (kZ = 0 ∨ gZ < pZ)) (hy3 : RM h T D) : Ct y_Mod_readLineOf b_Mod_readLineOf 3 none 4 94 [.ref 116, .int 4] h (q_Mod_readLineOfX_4 h b T D p0 s sZ p pZ g gZ k kZ v vZ w wZ a aZ z zZ i iZ) := by
  refine ct_ow R_Mod [some (.ref 116), some (.int 4), none] rfl (by decide) rfl (Nat.le_of_ble_eq_true rfl) ?_
  have f0 : fr S_Mod_readLineOfX_4 h h := fr_rf
  have g1 : 0 ≤ sZ ∧ sZ ≤ 160 := inv_at hI sE sK.symm rfl
  have g2 : 0 ≤ pZ ∧ pZ ≤ 160 := inv_at hI pE pK.symm rfl
  have g3 : 0 ≤ gZ ∧ gZ ≤ 160 := inv_at hI gE gK.symm rfl
  refine V_iload_n 1 d_Mod_readLineOf_0 rfl rfl ?_
  refine V_tabIn 147 tc_4 d_Mod_readLineOf_1 (by decide) (by decide) rfl (by decide) ?_
  refine V_aload_n 0 d_Mod_readLineOf_147 rfl rfl ?_
  refine V_iload_n 1 d_Mod_readLineOf_148 rfl rfl ?_
  refine N_callVV [.int 4] [] cv_Mod_170 sk_116 rfl d_Mod_readLineOf_149 rfl (Nat.le_of_ble_eq_true rfl) (by decide) (by decide) (c_Mod_readCellOfX_4 h b T D p0 hI s sZ sE sK p pZ pE pK g gZ gE gK k kZ kE kK v vZ vE vK w wZ wE wK a aZ aE aK z zZ zE zK i iZ iE iK (TP_fr f0 (fun _ => rfl) hy0) (by (first | decide +kernel | omega)) ⟨by (first | decide +kernel | omega), by (first | decide +kernel | omega), by (first | decide +kernel | omega), by (first | decide +kernel | omega), by (first | decide +kernel | omega), by (first | decide +kernel | omega), by (first | decide +kernel | omega), by (first | decide +kernel | omega), by (first | decide +kernel | omega), by (first | decide +kernel | omega), by (first | decide +kernel | omega)⟩ hy3) (fun h5 p6 => ?_)
  obtain ⟨hI7, fh5, o9, o9Z, o9E, o9K, o10, o10Z, o10E, o10K, o11, o11Z, o11E, o11K, o12, o12Z, o12E, o12K, o13, o13Z, o13E, o13K, o14, o14Z, o14E, o14K, p6⟩ := p6
  have f8 : fr S_Mod_readLineOfX_4 h h5 := fr_call f0 fh5 rfl
  have g15 : 0 ≤ o9Z ∧ o9Z ≤ 160 := inv_at hI7 o9E o9K.symm rfl
  have g16 : 0 ≤ o10Z ∧ o10Z ≤ 160 := inv_at hI7 o10E o10K.symm rfl
  exact V_vret rfl d_Mod_readLineOf_152 ⟨rfl, ⟨hI7, f8, o9, o9Z, o9E, o9K, o10, o10Z, o10E, o10K, o11, o11Z, o11E, o11K, o12, o12Z, o12E, o12K, o13, o13Z, o13E, o13K, o14, o14Z, o14E, o14K, p6⟩⟩
def S_Mod_readLineOfX_5 : List (Nat × Option Nat) := [(116, some 16), (116, some 17), (116, some 18), (116, some 19), (116, some 20), (116, some 21), (119, none), (120, some 1), (116, some 13)]
abbrev q_Mod_readLineOfX_5 (h : Hp) (b : Int → Int) (T : Nat → Int → Int) (D : Nat → Int) (p0 : Int) (s : Int32) (sZ : Int) (p : Int32) (pZ : Int) (g : Int32) (gZ : Int) (k : Int32) (kZ : Int) (v : Int32) (vZ : Int) (w : Int32) (wZ : Int) (a : Int32) (aZ : Int) (z : Int32) (zZ : Int) (i : Int32) (iZ : Int) : Option Value → Hp → Prop := pVd (fun h' => Inv h' ∧ fr S_Mod_readLineOfX_5 h h' ∧ ∃ (q : Int32) (qZ : Int), q.toInt = qZ ∧ h'.1 116 16 = q ∧ ∃ (f : Int32) (fZ : Int), f.toInt = fZ ∧ h'.1 116 17 = f ∧ ∃ (m : Int32) (mZ : Int), m.toInt = mZ ∧ h'.1 116 18 = m ∧ ∃ (x : Int32) (xZ : Int), x.toInt = xZ ∧ h'.1 116 19 = x ∧ ∃ (u : Int32) (uZ : Int), u.toInt = uZ ∧ h'.1 116 20 = u ∧ ∃ (y : Int32) (yZ : Int), y.toInt = yZ ∧ h'.1 116 21 = y ∧ ((uZ ≠ 0 ∧ x_l2 b T p0 = (uZ, yZ) ∨ uZ = 0 ∧ x_l2 b T p0 = x_sq (x_cS b (x_en b p0)) (x_fr b (x_en b p0)) (0, x_en b (x_en b p0)) ∧ (fZ = x_fr b (x_en b p0) ∧ mZ = x_kd b (x_en b p0) ∧ mZ ≠ 4 ∧ 0 ≤ mZ ∧ mZ ≤ 3 ∧ qZ = x_en b (x_en b p0) ∧ (mZ ≠ 2 ∨ xZ = x_vl b (x_en b p0) ∧ 0 ≤ xZ ∧ xZ ≤ 99) ∧ (x_en b p0) ≤ fZ ∧ fZ ≤ qZ ∧ qZ ≤ sZ ∧ (mZ = 0 ∨ fZ < qZ)) ∧ RM h' (x_upT T 2 (x_vl b p0)) (x_up D (16 + (x_vl b p0)) 1)) ∧ 0 ≤ qZ ∧ qZ ≤ sZ ∧ 0 ≤ uZ))
set_option maxRecDepth 100000 in
theorem c_Mod_readLineOfX_5 (h : Hp) (b : Int → Int) (T : Nat → Int → Int) (D : Nat → Int) (p0 : Int) (hI : Inv h) (s : Int32) (sZ : Int) (sE : s.toInt = sZ) (sK : h.1 116 15 = s) (p : Int32) (pZ : Int) (pE : p.toInt = pZ) (pK : h.1 116 16 = p) (g : Int32) (gZ : Int) (gE : g.toInt = gZ) (gK : h.1 116 17 = g) (k : Int32) (kZ : Int) (kE : k.toInt = kZ) (kK : h.1 116 18 = k) (v : Int32) (vZ : Int) (vE : v.toInt = vZ) (vK : h.1 116 19 = v) (w : Int32) (wZ : Int) (wE : w.toInt = wZ) (wK : h.1 116 20 = w) (a : Int32) (aZ : Int) (aE : a.toInt = aZ) (aK : h.1 116 21 = a) (z : Int32) (zZ : Int) (zE : z.toInt = zZ) (zK : h.1 120 1 = z) (i : Int32) (iZ : Int) (iE : i.toInt = iZ) (iK : h.1 116 13 = i) (hy0 : TP h 121 sZ b) (hy1 : 0 ≤ pZ ∧ pZ ≤ sZ ∧ wZ = 0) (hy2 : gZ = x_fr b p0 ∧ kZ = x_kd b p0 ∧ kZ ≠ 4 ∧ 0 ≤ kZ ∧ kZ ≤ 3 ∧ pZ = x_en b p0 ∧ (kZ ≠ 2 ∨ vZ = x_vl b p0 ∧ 0 ≤ vZ ∧ vZ ≤ 99) ∧ p0 ≤ gZ ∧ gZ ≤ pZ ∧ pZ ≤ sZ ∧ (kZ = 0 ∨ gZ < pZ)) (hy3 : RM h T D) : Ct y_Mod_readLineOf b_Mod_readLineOf 3 none 4 94 [.ref 116, .int 5] h (q_Mod_readLineOfX_5 h b T D p0 s sZ p pZ g gZ k kZ v vZ w wZ a aZ z zZ i iZ) := by
  refine ct_ow R_Mod [some (.ref 116), some (.int 5), none] rfl (by decide) rfl (Nat.le_of_ble_eq_true rfl) ?_
  have f0 : fr S_Mod_readLineOfX_5 h h := fr_rf
  have g1 : 0 ≤ sZ ∧ sZ ≤ 160 := inv_at hI sE sK.symm rfl
  have g2 : 0 ≤ pZ ∧ pZ ≤ 160 := inv_at hI pE pK.symm rfl
  have g3 : 0 ≤ gZ ∧ gZ ≤ 160 := inv_at hI gE gK.symm rfl
  refine V_iload_n 1 d_Mod_readLineOf_0 rfl rfl ?_
  refine V_tabIn 147 tc_5 d_Mod_readLineOf_1 (by decide) (by decide) rfl (by decide) ?_
  refine V_aload_n 0 d_Mod_readLineOf_147 rfl rfl ?_
  refine V_iload_n 1 d_Mod_readLineOf_148 rfl rfl ?_
  refine N_callVV [.int 5] [] cv_Mod_170 sk_116 rfl d_Mod_readLineOf_149 rfl (Nat.le_of_ble_eq_true rfl) (by decide) (by decide) (c_Mod_readCellOfX_5 h b T D p0 hI s sZ sE sK p pZ pE pK g gZ gE gK k kZ kE kK v vZ vE vK w wZ wE wK a aZ aE aK z zZ zE zK i iZ iE iK (TP_fr f0 (fun _ => rfl) hy0) (by (first | decide +kernel | omega)) ⟨by (first | decide +kernel | omega), by (first | decide +kernel | omega), by (first | decide +kernel | omega), by (first | decide +kernel | omega), by (first | decide +kernel | omega), by (first | decide +kernel | omega), by (first | decide +kernel | omega), by (first | decide +kernel | omega), by (first | decide +kernel | omega), by (first | decide +kernel | omega), by (first | decide +kernel | omega)⟩ hy3) (fun h5 p6 => ?_)
  obtain ⟨hI7, fh5, o9, o9Z, o9E, o9K, o10, o10Z, o10E, o10K, o11, o11Z, o11E, o11K, o12, o12Z, o12E, o12K, o13, o13Z, o13E, o13K, o14, o14Z, o14E, o14K, p6⟩ := p6
  have f8 : fr S_Mod_readLineOfX_5 h h5 := fr_call f0 fh5 rfl
  have g15 : 0 ≤ o9Z ∧ o9Z ≤ 160 := inv_at hI7 o9E o9K.symm rfl
  have g16 : 0 ≤ o10Z ∧ o10Z ≤ 160 := inv_at hI7 o10E o10K.symm rfl
  exact V_vret rfl d_Mod_readLineOf_152 ⟨rfl, ⟨hI7, f8, o9, o9Z, o9E, o9K, o10, o10Z, o10E, o10K, o11, o11Z, o11E, o11K, o12, o12Z, o12E, o12K, o13, o13Z, o13E, o13K, o14, o14Z, o14E, o14K, p6⟩⟩
def S_Mod_readLineOfX_6 : List (Nat × Option Nat) := [(116, some 16), (116, some 17), (116, some 18), (116, some 19), (116, some 20), (116, some 21), (119, none), (120, some 2), (116, some 13)]
abbrev q_Mod_readLineOfX_6 (h : Hp) (b : Int → Int) (T : Nat → Int → Int) (D : Nat → Int) (p0 : Int) (s : Int32) (sZ : Int) (p : Int32) (pZ : Int) (g : Int32) (gZ : Int) (k : Int32) (kZ : Int) (v : Int32) (vZ : Int) (w : Int32) (wZ : Int) (a : Int32) (aZ : Int) (z : Int32) (zZ : Int) (i : Int32) (iZ : Int) : Option Value → Hp → Prop := pVd (fun h' => Inv h' ∧ fr S_Mod_readLineOfX_6 h h' ∧ ∃ (q : Int32) (qZ : Int), q.toInt = qZ ∧ h'.1 116 16 = q ∧ ∃ (f : Int32) (fZ : Int), f.toInt = fZ ∧ h'.1 116 17 = f ∧ ∃ (m : Int32) (mZ : Int), m.toInt = mZ ∧ h'.1 116 18 = m ∧ ∃ (x : Int32) (xZ : Int), x.toInt = xZ ∧ h'.1 116 19 = x ∧ ∃ (u : Int32) (uZ : Int), u.toInt = uZ ∧ h'.1 116 20 = u ∧ ∃ (y : Int32) (yZ : Int), y.toInt = yZ ∧ h'.1 116 21 = y ∧ ((uZ ≠ 0 ∧ x_l3 b T p0 = (uZ, yZ) ∨ uZ = 0 ∧ x_l3 b T p0 = x_sq (x_cS b (x_en b (x_en b p0))) (x_fr b (x_en b (x_en b p0))) (0, x_en b (x_en b (x_en b p0))) ∧ (fZ = x_fr b (x_en b (x_en b p0)) ∧ mZ = x_kd b (x_en b (x_en b p0)) ∧ mZ ≠ 4 ∧ 0 ≤ mZ ∧ mZ ≤ 3 ∧ qZ = x_en b (x_en b (x_en b p0)) ∧ (mZ ≠ 2 ∨ xZ = x_vl b (x_en b (x_en b p0)) ∧ 0 ≤ xZ ∧ xZ ≤ 99) ∧ (x_en b (x_en b p0)) ≤ fZ ∧ fZ ≤ qZ ∧ qZ ≤ sZ ∧ (mZ = 0 ∨ fZ < qZ)) ∧ RM h' (x_upT T 3 (x_vl b p0)) (x_up D (32 + (x_vl b p0)) (x_vl b (x_en b p0)))) ∧ 0 ≤ qZ ∧ qZ ≤ sZ ∧ 0 ≤ uZ))
set_option maxRecDepth 100000 in
theorem c_Mod_readLineOfX_6 (h : Hp) (b : Int → Int) (T : Nat → Int → Int) (D : Nat → Int) (p0 : Int) (hI : Inv h) (s : Int32) (sZ : Int) (sE : s.toInt = sZ) (sK : h.1 116 15 = s) (p : Int32) (pZ : Int) (pE : p.toInt = pZ) (pK : h.1 116 16 = p) (g : Int32) (gZ : Int) (gE : g.toInt = gZ) (gK : h.1 116 17 = g) (k : Int32) (kZ : Int) (kE : k.toInt = kZ) (kK : h.1 116 18 = k) (v : Int32) (vZ : Int) (vE : v.toInt = vZ) (vK : h.1 116 19 = v) (w : Int32) (wZ : Int) (wE : w.toInt = wZ) (wK : h.1 116 20 = w) (a : Int32) (aZ : Int) (aE : a.toInt = aZ) (aK : h.1 116 21 = a) (z : Int32) (zZ : Int) (zE : z.toInt = zZ) (zK : h.1 120 2 = z) (i : Int32) (iZ : Int) (iE : i.toInt = iZ) (iK : h.1 116 13 = i) (hy0 : TP h 121 sZ b) (hy1 : 0 ≤ pZ ∧ pZ ≤ sZ ∧ wZ = 0) (hy2 : gZ = x_fr b p0 ∧ kZ = x_kd b p0 ∧ kZ ≠ 4 ∧ 0 ≤ kZ ∧ kZ ≤ 3 ∧ pZ = x_en b p0 ∧ (kZ ≠ 2 ∨ vZ = x_vl b p0 ∧ 0 ≤ vZ ∧ vZ ≤ 99) ∧ p0 ≤ gZ ∧ gZ ≤ pZ ∧ pZ ≤ sZ ∧ (kZ = 0 ∨ gZ < pZ)) (hy3 : RM h T D) : Ct y_Mod_readLineOf b_Mod_readLineOf 3 none 4 94 [.ref 116, .int 6] h (q_Mod_readLineOfX_6 h b T D p0 s sZ p pZ g gZ k kZ v vZ w wZ a aZ z zZ i iZ) := by
  refine ct_ow R_Mod [some (.ref 116), some (.int 6), none] rfl (by decide) rfl (Nat.le_of_ble_eq_true rfl) ?_
  have f0 : fr S_Mod_readLineOfX_6 h h := fr_rf
  have g1 : 0 ≤ sZ ∧ sZ ≤ 160 := inv_at hI sE sK.symm rfl
  have g2 : 0 ≤ pZ ∧ pZ ≤ 160 := inv_at hI pE pK.symm rfl
  have g3 : 0 ≤ gZ ∧ gZ ≤ 160 := inv_at hI gE gK.symm rfl
  refine V_iload_n 1 d_Mod_readLineOf_0 rfl rfl ?_
  refine V_tabIn 147 tc_6 d_Mod_readLineOf_1 (by decide) (by decide) rfl (by decide) ?_
  refine V_aload_n 0 d_Mod_readLineOf_147 rfl rfl ?_
  refine V_iload_n 1 d_Mod_readLineOf_148 rfl rfl ?_
  refine N_callVV [.int 6] [] cv_Mod_170 sk_116 rfl d_Mod_readLineOf_149 rfl (Nat.le_of_ble_eq_true rfl) (by decide) (by decide) (c_Mod_readCellOfX_6 h b T D p0 hI s sZ sE sK p pZ pE pK g gZ gE gK k kZ kE kK v vZ vE vK w wZ wE wK a aZ aE aK z zZ zE zK i iZ iE iK (TP_fr f0 (fun _ => rfl) hy0) (by (first | decide +kernel | omega)) ⟨by (first | decide +kernel | omega), by (first | decide +kernel | omega), by (first | decide +kernel | omega), by (first | decide +kernel | omega), by (first | decide +kernel | omega), by (first | decide +kernel | omega), by (first | decide +kernel | omega), by (first | decide +kernel | omega), by (first | decide +kernel | omega), by (first | decide +kernel | omega), by (first | decide +kernel | omega)⟩ hy3) (fun h5 p6 => ?_)
  obtain ⟨hI7, fh5, o9, o9Z, o9E, o9K, o10, o10Z, o10E, o10K, o11, o11Z, o11E, o11K, o12, o12Z, o12E, o12K, o13, o13Z, o13E, o13K, o14, o14Z, o14E, o14K, p6⟩ := p6
  have f8 : fr S_Mod_readLineOfX_6 h h5 := fr_call f0 fh5 rfl
  have g15 : 0 ≤ o9Z ∧ o9Z ≤ 160 := inv_at hI7 o9E o9K.symm rfl
  have g16 : 0 ≤ o10Z ∧ o10Z ≤ 160 := inv_at hI7 o10E o10K.symm rfl
  exact V_vret rfl d_Mod_readLineOf_152 ⟨rfl, ⟨hI7, f8, o9, o9Z, o9E, o9K, o10, o10Z, o10E, o10K, o11, o11Z, o11E, o11K, o12, o12Z, o12E, o12K, o13, o13Z, o13E, o13K, o14, o14Z, o14E, o14K, p6⟩⟩
def S_Mod_readLineOfX_7 : List (Nat × Option Nat) := [(116, some 16), (116, some 17), (116, some 18), (116, some 19), (116, some 20), (116, some 21), (119, none), (120, some 3), (116, some 13)]
abbrev q_Mod_readLineOfX_7 (h : Hp) (b : Int → Int) (T : Nat → Int → Int) (D : Nat → Int) (p0 : Int) (s : Int32) (sZ : Int) (p : Int32) (pZ : Int) (g : Int32) (gZ : Int) (k : Int32) (kZ : Int) (v : Int32) (vZ : Int) (w : Int32) (wZ : Int) (a : Int32) (aZ : Int) (z : Int32) (zZ : Int) (i : Int32) (iZ : Int) : Option Value → Hp → Prop := pVd (fun h' => Inv h' ∧ fr S_Mod_readLineOfX_7 h h' ∧ ∃ (q : Int32) (qZ : Int), q.toInt = qZ ∧ h'.1 116 16 = q ∧ ∃ (f : Int32) (fZ : Int), f.toInt = fZ ∧ h'.1 116 17 = f ∧ ∃ (m : Int32) (mZ : Int), m.toInt = mZ ∧ h'.1 116 18 = m ∧ ∃ (x : Int32) (xZ : Int), x.toInt = xZ ∧ h'.1 116 19 = x ∧ ∃ (u : Int32) (uZ : Int), u.toInt = uZ ∧ h'.1 116 20 = u ∧ ∃ (y : Int32) (yZ : Int), y.toInt = yZ ∧ h'.1 116 21 = y ∧ ((uZ ≠ 0 ∧ x_l4 b T p0 = (uZ, yZ) ∨ uZ = 0 ∧ x_l4 b T p0 = x_sq (x_cS b (x_en b (x_en b p0))) (x_fr b (x_en b (x_en b p0))) (0, x_en b (x_en b (x_en b p0))) ∧ (fZ = x_fr b (x_en b (x_en b p0)) ∧ mZ = x_kd b (x_en b (x_en b p0)) ∧ mZ ≠ 4 ∧ 0 ≤ mZ ∧ mZ ≤ 3 ∧ qZ = x_en b (x_en b (x_en b p0)) ∧ (mZ ≠ 2 ∨ xZ = x_vl b (x_en b (x_en b p0)) ∧ 0 ≤ xZ ∧ xZ ≤ 99) ∧ (x_en b (x_en b p0)) ≤ fZ ∧ fZ ≤ qZ ∧ qZ ≤ sZ ∧ (mZ = 0 ∨ fZ < qZ)) ∧ RM h' (x_upT T 4 (x_vl b p0)) (x_up D (48 + (x_vl b p0)) (x_vl b (x_en b p0)))) ∧ 0 ≤ qZ ∧ qZ ≤ sZ ∧ 0 ≤ uZ))
set_option maxRecDepth 100000 in
theorem c_Mod_readLineOfX_7 (h : Hp) (b : Int → Int) (T : Nat → Int → Int) (D : Nat → Int) (p0 : Int) (hI : Inv h) (s : Int32) (sZ : Int) (sE : s.toInt = sZ) (sK : h.1 116 15 = s) (p : Int32) (pZ : Int) (pE : p.toInt = pZ) (pK : h.1 116 16 = p) (g : Int32) (gZ : Int) (gE : g.toInt = gZ) (gK : h.1 116 17 = g) (k : Int32) (kZ : Int) (kE : k.toInt = kZ) (kK : h.1 116 18 = k) (v : Int32) (vZ : Int) (vE : v.toInt = vZ) (vK : h.1 116 19 = v) (w : Int32) (wZ : Int) (wE : w.toInt = wZ) (wK : h.1 116 20 = w) (a : Int32) (aZ : Int) (aE : a.toInt = aZ) (aK : h.1 116 21 = a) (z : Int32) (zZ : Int) (zE : z.toInt = zZ) (zK : h.1 120 3 = z) (i : Int32) (iZ : Int) (iE : i.toInt = iZ) (iK : h.1 116 13 = i) (hy0 : TP h 121 sZ b) (hy1 : 0 ≤ pZ ∧ pZ ≤ sZ ∧ wZ = 0) (hy2 : gZ = x_fr b p0 ∧ kZ = x_kd b p0 ∧ kZ ≠ 4 ∧ 0 ≤ kZ ∧ kZ ≤ 3 ∧ pZ = x_en b p0 ∧ (kZ ≠ 2 ∨ vZ = x_vl b p0 ∧ 0 ≤ vZ ∧ vZ ≤ 99) ∧ p0 ≤ gZ ∧ gZ ≤ pZ ∧ pZ ≤ sZ ∧ (kZ = 0 ∨ gZ < pZ)) (hy3 : RM h T D) : Ct y_Mod_readLineOf b_Mod_readLineOf 3 none 4 94 [.ref 116, .int 7] h (q_Mod_readLineOfX_7 h b T D p0 s sZ p pZ g gZ k kZ v vZ w wZ a aZ z zZ i iZ) := by
  refine ct_ow R_Mod [some (.ref 116), some (.int 7), none] rfl (by decide) rfl (Nat.le_of_ble_eq_true rfl) ?_
  have f0 : fr S_Mod_readLineOfX_7 h h := fr_rf
  have g1 : 0 ≤ sZ ∧ sZ ≤ 160 := inv_at hI sE sK.symm rfl
  have g2 : 0 ≤ pZ ∧ pZ ≤ 160 := inv_at hI pE pK.symm rfl
  have g3 : 0 ≤ gZ ∧ gZ ≤ 160 := inv_at hI gE gK.symm rfl
  refine V_iload_n 1 d_Mod_readLineOf_0 rfl rfl ?_
  refine V_tabIn 147 tc_7 d_Mod_readLineOf_1 (by decide) (by decide) rfl (by decide) ?_
  refine V_aload_n 0 d_Mod_readLineOf_147 rfl rfl ?_
  refine V_iload_n 1 d_Mod_readLineOf_148 rfl rfl ?_
  refine N_callVV [.int 7] [] cv_Mod_170 sk_116 rfl d_Mod_readLineOf_149 rfl (Nat.le_of_ble_eq_true rfl) (by decide) (by decide) (c_Mod_readCellOfX_7 h b T D p0 hI s sZ sE sK p pZ pE pK g gZ gE gK k kZ kE kK v vZ vE vK w wZ wE wK a aZ aE aK z zZ zE zK i iZ iE iK (TP_fr f0 (fun _ => rfl) hy0) (by (first | decide +kernel | omega)) ⟨by (first | decide +kernel | omega), by (first | decide +kernel | omega), by (first | decide +kernel | omega), by (first | decide +kernel | omega), by (first | decide +kernel | omega), by (first | decide +kernel | omega), by (first | decide +kernel | omega), by (first | decide +kernel | omega), by (first | decide +kernel | omega), by (first | decide +kernel | omega), by (first | decide +kernel | omega)⟩ hy3) (fun h5 p6 => ?_)
  obtain ⟨hI7, fh5, o9, o9Z, o9E, o9K, o10, o10Z, o10E, o10K, o11, o11Z, o11E, o11K, o12, o12Z, o12E, o12K, o13, o13Z, o13E, o13K, o14, o14Z, o14E, o14K, p6⟩ := p6
  have f8 : fr S_Mod_readLineOfX_7 h h5 := fr_call f0 fh5 rfl
  have g15 : 0 ≤ o9Z ∧ o9Z ≤ 160 := inv_at hI7 o9E o9K.symm rfl
  have g16 : 0 ≤ o10Z ∧ o10Z ≤ 160 := inv_at hI7 o10E o10K.symm rfl
  exact V_vret rfl d_Mod_readLineOf_152 ⟨rfl, ⟨hI7, f8, o9, o9Z, o9E, o9K, o10, o10Z, o10E, o10K, o11, o11Z, o11E, o11K, o12, o12Z, o12E, o12K, o13, o13Z, o13E, o13K, o14, o14Z, o14E, o14K, p6⟩⟩
def S_Mod_readLineOfX_8 : List (Nat × Option Nat) := [(116, some 16), (116, some 17), (116, some 18), (116, some 19), (116, some 20), (116, some 21), (119, none), (120, some 4), (116, some 13)]
abbrev q_Mod_readLineOfX_8 (h : Hp) (b : Int → Int) (T : Nat → Int → Int) (D : Nat → Int) (p0 : Int) (s : Int32) (sZ : Int) (p : Int32) (pZ : Int) (g : Int32) (gZ : Int) (k : Int32) (kZ : Int) (v : Int32) (vZ : Int) (w : Int32) (wZ : Int) (a : Int32) (aZ : Int) (z : Int32) (zZ : Int) (i : Int32) (iZ : Int) : Option Value → Hp → Prop := pVd (fun h' => Inv h' ∧ fr S_Mod_readLineOfX_8 h h' ∧ ∃ (q : Int32) (qZ : Int), q.toInt = qZ ∧ h'.1 116 16 = q ∧ ∃ (f : Int32) (fZ : Int), f.toInt = fZ ∧ h'.1 116 17 = f ∧ ∃ (m : Int32) (mZ : Int), m.toInt = mZ ∧ h'.1 116 18 = m ∧ ∃ (x : Int32) (xZ : Int), x.toInt = xZ ∧ h'.1 116 19 = x ∧ ∃ (u : Int32) (uZ : Int), u.toInt = uZ ∧ h'.1 116 20 = u ∧ ∃ (y : Int32) (yZ : Int), y.toInt = yZ ∧ h'.1 116 21 = y ∧ ((uZ ≠ 0 ∧ x_l5 b T p0 = (uZ, yZ) ∨ uZ = 0 ∧ x_l5 b T p0 = x_sq (x_cS b (x_en b (x_en b p0))) (x_fr b (x_en b (x_en b p0))) (0, x_en b (x_en b (x_en b p0))) ∧ (fZ = x_fr b (x_en b (x_en b p0)) ∧ mZ = x_kd b (x_en b (x_en b p0)) ∧ mZ ≠ 4 ∧ 0 ≤ mZ ∧ mZ ≤ 3 ∧ qZ = x_en b (x_en b (x_en b p0)) ∧ (mZ ≠ 2 ∨ xZ = x_vl b (x_en b (x_en b p0)) ∧ 0 ≤ xZ ∧ xZ ≤ 99) ∧ (x_en b (x_en b p0)) ≤ fZ ∧ fZ ≤ qZ ∧ qZ ≤ sZ ∧ (mZ = 0 ∨ fZ < qZ)) ∧ RM h' (x_upT T 5 (x_vl b p0)) (x_up D (80 + (x_vl b p0)) (x_vl b (x_en b p0)))) ∧ 0 ≤ qZ ∧ qZ ≤ sZ ∧ 0 ≤ uZ))
set_option maxRecDepth 100000 in
theorem c_Mod_readLineOfX_8 (h : Hp) (b : Int → Int) (T : Nat → Int → Int) (D : Nat → Int) (p0 : Int) (hI : Inv h) (s : Int32) (sZ : Int) (sE : s.toInt = sZ) (sK : h.1 116 15 = s) (p : Int32) (pZ : Int) (pE : p.toInt = pZ) (pK : h.1 116 16 = p) (g : Int32) (gZ : Int) (gE : g.toInt = gZ) (gK : h.1 116 17 = g) (k : Int32) (kZ : Int) (kE : k.toInt = kZ) (kK : h.1 116 18 = k) (v : Int32) (vZ : Int) (vE : v.toInt = vZ) (vK : h.1 116 19 = v) (w : Int32) (wZ : Int) (wE : w.toInt = wZ) (wK : h.1 116 20 = w) (a : Int32) (aZ : Int) (aE : a.toInt = aZ) (aK : h.1 116 21 = a) (z : Int32) (zZ : Int) (zE : z.toInt = zZ) (zK : h.1 120 4 = z) (i : Int32) (iZ : Int) (iE : i.toInt = iZ) (iK : h.1 116 13 = i) (hy0 : TP h 121 sZ b) (hy1 : 0 ≤ pZ ∧ pZ ≤ sZ ∧ wZ = 0) (hy2 : gZ = x_fr b p0 ∧ kZ = x_kd b p0 ∧ kZ ≠ 4 ∧ 0 ≤ kZ ∧ kZ ≤ 3 ∧ pZ = x_en b p0 ∧ (kZ ≠ 2 ∨ vZ = x_vl b p0 ∧ 0 ≤ vZ ∧ vZ ≤ 99) ∧ p0 ≤ gZ ∧ gZ ≤ pZ ∧ pZ ≤ sZ ∧ (kZ = 0 ∨ gZ < pZ)) (hy3 : RM h T D) : Ct y_Mod_readLineOf b_Mod_readLineOf 3 none 3 70 [.ref 116, .int 8] h (q_Mod_readLineOfX_8 h b T D p0 s sZ p pZ g gZ k kZ v vZ w wZ a aZ z zZ i iZ) := by
  refine ct_ow R_Mod [some (.ref 116), some (.int 8), none] rfl (by decide) rfl (Nat.le_of_ble_eq_true rfl) ?_
  have f0 : fr S_Mod_readLineOfX_8 h h := fr_rf
  have g1 : 0 ≤ sZ ∧ sZ ≤ 160 := inv_at hI sE sK.symm rfl
  have g2 : 0 ≤ pZ ∧ pZ ≤ 160 := inv_at hI pE pK.symm rfl
  have g3 : 0 ≤ gZ ∧ gZ ≤ 160 := inv_at hI gE gK.symm rfl
  refine V_iload_n 1 d_Mod_readLineOf_0 rfl rfl ?_
  refine V_tabIn 114 tc_8 d_Mod_readLineOf_1 (by decide) (by decide) rfl (by decide) ?_
  refine V_aload_n 0 d_Mod_readLineOf_114 rfl rfl ?_
  refine V_iload_n 1 d_Mod_readLineOf_115 rfl rfl ?_
  refine V_iconst 3 d_Mod_readLineOf_116 (by decide) ?_
  refine N_callVI [.int 8, .int 3] [] cv_Mod_161 sk_116 rfl d_Mod_readLineOf_117 rfl (Nat.le_of_ble_eq_true rfl) (by decide) (by decide) (c_Mod_readFreshX_8 h b T D p0 hI s sZ sE sK p pZ pE pK g gZ gE gK k kZ kE kK v vZ vE vK w wZ wE wK a aZ aE aK z zZ zE zK i iZ iE iK (TP_fr f0 (fun _ => rfl) hy0) (by (first | decide +kernel | omega)) ⟨by (first | decide +kernel | omega), by (first | decide +kernel | omega), by (first | decide +kernel | omega), by (first | decide +kernel | omega), by (first | decide +kernel | omega), by (first | decide +kernel | omega), by (first | decide +kernel | omega), by (first | decide +kernel | omega), by (first | decide +kernel | omega), by (first | decide +kernel | omega), by (first | decide +kernel | omega)⟩ hy3) (fun z4 h5 z4Z z4E p6 => ?_)
  obtain ⟨hI7, fh5, o9, o9Z, o9E, o9K, o10, o10Z, o10E, o10K, o11, o11Z, o11E, o11K, o12, o12Z, o12E, o12K, o13, o13Z, o13E, o13K, o14, o14Z, o14E, o14K, p6⟩ := p6
  have f8 : fr S_Mod_readLineOfX_8 h h5 := fr_call f0 fh5 rfl
  have g15 : 0 ≤ o9Z ∧ o9Z ≤ 160 := inv_at hI7 o9E o9K.symm rfl
  have g16 : 0 ≤ o10Z ∧ o10Z ≤ 160 := inv_at hI7 o10E o10K.symm rfl
  refine V_istore_n 2 [some (.ref 116), some (.int 8), some (.int z4)] d_Mod_readLineOf_120 rfl (by decide) rfl rfl ?_
  rcases (by (first | decide +kernel | omega) : o13Z ≠ 0 ∧ x_cN b p0 0 3 ≠ 0 ∨ o13Z ≠ 0 ∧ x_cN b p0 0 3 = 0 ∧ x_c4 (T 5 (x_vl b p0)) ≠ 0 ∨ o13Z ≠ 0 ∧ x_cN b p0 0 3 = 0 ∧ x_c4 (T 5 (x_vl b p0)) = 0 ∨ o13Z = 0) with c17 | c17 | c17 | c17
  ·
    replace p6 := And.intro (p6.1.resolve_right (fun q => by (first | decide +kernel | omega))) p6.2
    have g18 := x_cN_s b p0 0 3
    refine V_aload_n 0 d_Mod_readLineOf_121 rfl rfl ?_
    refine V_getR fa_Mod_17 sk_116 rfl d_Mod_readLineOf_122 ?_
    refine V_bipush 80 d_Mod_readLineOf_125 (by decide) ?_
    refine V_iload_n 2 d_Mod_readLineOf_127 rfl rfl ?_
    refine V_iadd tc_80 z4E (by (first | decide +kernel | omega)) d_Mod_readLineOf_128 (fun z19 z19e z19E => ?_)
    refine V_aload_n 0 d_Mod_readLineOf_129 rfl rfl ?_
    refine V_iconst 0 d_Mod_readLineOf_130 (by decide) ?_
    refine V_bipush 99 d_Mod_readLineOf_131 (by decide) ?_
    refine N_callVI [.int 0, .int 99] [.int z19, .ref 119] cv_Mod_158 sk_116 rfl d_Mod_readLineOf_133 rfl (Nat.le_of_ble_eq_true rfl) (by decide) (by decide) (c_Mod_readNumberX h5 b (x_en b p0) hI7 0 0 tc_0 99 99 tc_99 s sZ sE (kn_call fh5 sK rfl) o9 o9Z o9E o9K o10 o10Z o10E o10K o11 o11Z o11E o11K o12 o12Z o12E o12K o13 o13Z o13E o13K o14 o14Z o14E o14K (TP_fr f8 (fun _ => rfl) hy0) (by (first | decide +kernel | omega)) (Or.inl (by (first | decide +kernel | omega)))) (fun z20 h21 z20Z z20E p22 => ?_)
    obtain ⟨hI23, fh21, o25, o25Z, o25E, o25K, o26, o26Z, o26E, o26K, o27, o27Z, o27E, o27K, o28, o28Z, o28E, o28K, o29, o29Z, o29E, o29K, o30, o30Z, o30E, o30K, p22⟩ := p22
    have f24 : fr S_Mod_readLineOfX_8 h h21 := fr_call f8 fh21 rfl
    have g31 : 0 ≤ o25Z ∧ o25Z ≤ 160 := inv_at hI23 o25E o25K.symm rfl
    have g32 : 0 ≤ o26Z ∧ o26Z ≤ 160 := inv_at hI23 o26E o26K.symm rfl
    replace p22 := And.intro (p22.1.resolve_right (fun q => by (first | decide +kernel | omega))) p22.2
    refine N_iast sk_119 z19E (by (first | decide +kernel | omega)) d_Mod_readLineOf_136 (fun h33 eh33 => ?_)
    have hI34 : Inv h33 := inv_full hI23 eh33 (st_lo (by (first | decide +kernel | omega)))
    have f35 : fr S_Mod_readLineOfX_8 h h33 := fr_put f24 eh33 rfl
    refine V_goto 152 d_Mod_readLineOf_137 (by decide) ?_
    exact V_vret rfl d_Mod_readLineOf_152 ⟨rfl, ⟨hI34, f35, o25, o25Z, o25E, (kn_ne eh33 o25K (by decide)), o26, o26Z, o26E, (kn_ne eh33 o26K (by decide)), o27, o27Z, o27E, (kn_ne eh33 o27K (by decide)), o28, o28Z, o28E, (kn_ne eh33 o28K (by decide)), o29, o29Z, o29E, (kn_ne eh33 o29K (by decide)), o30, o30Z, o30E, (kn_ne eh33 o30K (by decide)), ⟨Or.inl ⟨by (first | decide +kernel | omega), (show x_l5 b T p0 = (x_cN b p0 0 3, x_fr b p0) from by unfold x_l5; rw [x_sq_y (c := x_cN b p0 0 3) (by (first | decide +kernel | omega))]).trans (pq (by (first | decide +kernel | omega)) (by (first | decide +kernel | omega)))⟩, by (first | decide +kernel | omega), by (first | decide +kernel | omega), by (first | decide +kernel | omega)⟩⟩⟩
  ·
    replace p6 := And.intro ((p6.1.resolve_left (fun q => by (first | decide +kernel | omega))).resolve_right (fun q => by (first | decide +kernel | omega))) p6.2
    have g36 := x_c4_s (T 5 (x_vl b p0))
    refine V_aload_n 0 d_Mod_readLineOf_121 rfl rfl ?_
    refine V_getR fa_Mod_17 sk_116 rfl d_Mod_readLineOf_122 ?_
    refine V_bipush 80 d_Mod_readLineOf_125 (by decide) ?_
    refine V_iload_n 2 d_Mod_readLineOf_127 rfl rfl ?_
    refine V_iadd tc_80 z4E (by (first | decide +kernel | omega)) d_Mod_readLineOf_128 (fun z37 z37e z37E => ?_)
    refine V_aload_n 0 d_Mod_readLineOf_129 rfl rfl ?_
    refine V_iconst 0 d_Mod_readLineOf_130 (by decide) ?_
    refine V_bipush 99 d_Mod_readLineOf_131 (by decide) ?_
    refine N_callVI [.int 0, .int 99] [.int z37, .ref 119] cv_Mod_158 sk_116 rfl d_Mod_readLineOf_133 rfl (Nat.le_of_ble_eq_true rfl) (by decide) (by decide) (c_Mod_readNumberX h5 b (x_en b p0) hI7 0 0 tc_0 99 99 tc_99 s sZ sE (kn_call fh5 sK rfl) o9 o9Z o9E o9K o10 o10Z o10E o10K o11 o11Z o11E o11K o12 o12Z o12E o12K o13 o13Z o13E o13K o14 o14Z o14E o14K (TP_fr f8 (fun _ => rfl) hy0) (by (first | decide +kernel | omega)) (Or.inl (by (first | decide +kernel | omega)))) (fun z38 h39 z38Z z38E p40 => ?_)
    obtain ⟨hI41, fh39, o43, o43Z, o43E, o43K, o44, o44Z, o44E, o44K, o45, o45Z, o45E, o45K, o46, o46Z, o46E, o46K, o47, o47Z, o47E, o47K, o48, o48Z, o48E, o48K, p40⟩ := p40
    have f42 : fr S_Mod_readLineOfX_8 h h39 := fr_call f8 fh39 rfl
    have g49 : 0 ≤ o43Z ∧ o43Z ≤ 160 := inv_at hI41 o43E o43K.symm rfl
    have g50 : 0 ≤ o44Z ∧ o44Z ≤ 160 := inv_at hI41 o44E o44K.symm rfl
    replace p40 := And.intro (p40.1.resolve_right (fun q => by (first | decide +kernel | omega))) p40.2
    refine N_iast sk_119 z37E (by (first | decide +kernel | omega)) d_Mod_readLineOf_136 (fun h51 eh51 => ?_)
    have hI52 : Inv h51 := inv_full hI41 eh51 (st_lo (by (first | decide +kernel | omega)))
    have f53 : fr S_Mod_readLineOfX_8 h h51 := fr_put f42 eh51 rfl
    refine V_goto 152 d_Mod_readLineOf_137 (by decide) ?_
    exact V_vret rfl d_Mod_readLineOf_152 ⟨rfl, ⟨hI52, f53, o43, o43Z, o43E, (kn_ne eh51 o43K (by decide)), o44, o44Z, o44E, (kn_ne eh51 o44K (by decide)), o45, o45Z, o45E, (kn_ne eh51 o45K (by decide)), o46, o46Z, o46E, (kn_ne eh51 o46K (by decide)), o47, o47Z, o47E, (kn_ne eh51 o47K (by decide)), o48, o48Z, o48E, (kn_ne eh51 o48K (by decide)), ⟨Or.inl ⟨by (first | decide +kernel | omega), (show x_l5 b T p0 = (x_c4 (T 5 (x_vl b p0)), x_fr b p0) from by unfold x_l5; rw [x_sq_n (c := x_cN b p0 0 3) (by (first | decide +kernel | omega)), x_sq_y (c := x_c4 (T 5 (x_vl b p0))) (by (first | decide +kernel | omega))]).trans (pq (by (first | decide +kernel | omega)) (by (first | decide +kernel | omega)))⟩, by (first | decide +kernel | omega), by (first | decide +kernel | omega), by (first | decide +kernel | omega)⟩⟩⟩
  ·
    replace p6 := And.intro (((p6.1.resolve_left (fun q => by (first | decide +kernel | omega))).resolve_left (fun q => by (first | decide +kernel | omega))).2.2.2.1.resolve_right (fun q => by (first | decide +kernel | omega))) p6.2
    have g54 := x_cN_s b (x_en b p0) 0 99
    refine V_aload_n 0 d_Mod_readLineOf_121 rfl rfl ?_
    refine V_getR fa_Mod_17 sk_116 rfl d_Mod_readLineOf_122 ?_
    refine V_bipush 80 d_Mod_readLineOf_125 (by decide) ?_
    refine V_iload_n 2 d_Mod_readLineOf_127 rfl rfl ?_
    refine V_iadd tc_80 z4E (by (first | decide +kernel | omega)) d_Mod_readLineOf_128 (fun z55 z55e z55E => ?_)
    refine V_aload_n 0 d_Mod_readLineOf_129 rfl rfl ?_
    refine V_iconst 0 d_Mod_readLineOf_130 (by decide) ?_
    refine V_bipush 99 d_Mod_readLineOf_131 (by decide) ?_
    refine N_callVI [.int 0, .int 99] [.int z55, .ref 119] cv_Mod_158 sk_116 rfl d_Mod_readLineOf_133 rfl (Nat.le_of_ble_eq_true rfl) (by decide) (by decide) (c_Mod_readNumberX h5 b (x_en b p0) hI7 0 0 tc_0 99 99 tc_99 s sZ sE (kn_call fh5 sK rfl) o9 o9Z o9E o9K o10 o10Z o10E o10K o11 o11Z o11E o11K o12 o12Z o12E o12K o13 o13Z o13E o13K o14 o14Z o14E o14K (TP_fr f8 (fun _ => rfl) hy0) (by (first | decide +kernel | omega)) (Or.inl (by (first | decide +kernel | omega)))) (fun z56 h57 z56Z z56E p58 => ?_)
    obtain ⟨hI59, fh57, o61, o61Z, o61E, o61K, o62, o62Z, o62E, o62K, o63, o63Z, o63E, o63K, o64, o64Z, o64E, o64K, o65, o65Z, o65E, o65K, o66, o66Z, o66E, o66K, p58⟩ := p58
    have f60 : fr S_Mod_readLineOfX_8 h h57 := fr_call f8 fh57 rfl
    have g67 : 0 ≤ o61Z ∧ o61Z ≤ 160 := inv_at hI59 o61E o61K.symm rfl
    have g68 : 0 ≤ o62Z ∧ o62Z ≤ 160 := inv_at hI59 o62E o62K.symm rfl
    replace p58 := And.intro (p58.1.resolve_right (fun q => by (first | decide +kernel | omega))) p58.2
    refine N_iast sk_119 z55E (by (first | decide +kernel | omega)) d_Mod_readLineOf_136 (fun h69 eh69 => ?_)
    have hI70 : Inv h69 := inv_full hI59 eh69 (st_lo (by (first | decide +kernel | omega)))
    have f71 : fr S_Mod_readLineOfX_8 h h69 := fr_put f60 eh69 rfl
    refine V_goto 152 d_Mod_readLineOf_137 (by decide) ?_
    exact V_vret rfl d_Mod_readLineOf_152 ⟨rfl, ⟨hI70, f71, o61, o61Z, o61E, (kn_ne eh69 o61K (by decide)), o62, o62Z, o62E, (kn_ne eh69 o62K (by decide)), o63, o63Z, o63E, (kn_ne eh69 o63K (by decide)), o64, o64Z, o64E, (kn_ne eh69 o64K (by decide)), o65, o65Z, o65E, (kn_ne eh69 o65K (by decide)), o66, o66Z, o66E, (kn_ne eh69 o66K (by decide)), ⟨Or.inl ⟨by (first | decide +kernel | omega), (show x_l5 b T p0 = (x_cN b (x_en b p0) 0 99, x_fr b (x_en b p0)) from by unfold x_l5; rw [x_sq_n (c := x_cN b p0 0 3) (by (first | decide +kernel | omega)), x_sq_n (c := x_c4 (T 5 (x_vl b p0))) (by (first | decide +kernel | omega)), x_sq_y (c := x_cN b (x_en b p0) 0 99) (by (first | decide +kernel | omega))]).trans (pq (by (first | decide +kernel | omega)) (by (first | decide +kernel | omega)))⟩, by (first | decide +kernel | omega), by (first | decide +kernel | omega), by (first | decide +kernel | omega)⟩⟩⟩
  ·
    obtain ⟨p61, p62, p63, p64, p6R⟩ := ((p6.1.resolve_left (fun q => by (first | decide +kernel | omega))).resolve_left (fun q => by (first | decide +kernel | omega)))
    replace p6 := And.intro (p64.resolve_left (fun q => by (first | decide +kernel | omega))) p6.2
    clear p64
    refine V_aload_n 0 d_Mod_readLineOf_121 rfl rfl ?_
    refine V_getR fa_Mod_17 sk_116 rfl d_Mod_readLineOf_122 ?_
    refine V_bipush 80 d_Mod_readLineOf_125 (by decide) ?_
    refine V_iload_n 2 d_Mod_readLineOf_127 rfl rfl ?_
    refine V_iadd tc_80 z4E (by (first | decide +kernel | omega)) d_Mod_readLineOf_128 (fun z72 z72e z72E => ?_)
    refine V_aload_n 0 d_Mod_readLineOf_129 rfl rfl ?_
    refine V_iconst 0 d_Mod_readLineOf_130 (by decide) ?_
    refine V_bipush 99 d_Mod_readLineOf_131 (by decide) ?_
    refine N_callVI [.int 0, .int 99] [.int z72, .ref 119] cv_Mod_158 sk_116 rfl d_Mod_readLineOf_133 rfl (Nat.le_of_ble_eq_true rfl) (by decide) (by decide) (c_Mod_readNumberX h5 b (x_en b p0) hI7 0 0 tc_0 99 99 tc_99 s sZ sE (kn_call fh5 sK rfl) o9 o9Z o9E o9K o10 o10Z o10E o10K o11 o11Z o11E o11K o12 o12Z o12E o12K o13 o13Z o13E o13K o14 o14Z o14E o14K (TP_fr f8 (fun _ => rfl) hy0) (by (first | decide +kernel | omega)) (Or.inr ⟨by (first | decide +kernel | omega), by (first | decide +kernel | omega), by (first | decide +kernel | omega), by (first | decide +kernel | omega), by (first | decide +kernel | omega), by (first | decide +kernel | omega), by (first | decide +kernel | omega), by (first | decide +kernel | omega), by (first | decide +kernel | omega), by (first | decide +kernel | omega), by (first | decide +kernel | omega)⟩)) (fun z73 h74 z73Z z73E p75 => ?_)
    obtain ⟨hI76, fh74, o78, o78Z, o78E, o78K, o79, o79Z, o79E, o79K, o80, o80Z, o80E, o80K, o81, o81Z, o81E, o81K, o82, o82Z, o82E, o82K, o83, o83Z, o83E, o83K, p75⟩ := p75
    have f77 : fr S_Mod_readLineOfX_8 h h74 := fr_call f8 fh74 rfl
    have R84 : RM h74 (x_upT T 5 (x_vl b p0)) D := RM_fr fh74 rfl p6R
    have g85 : 0 ≤ o78Z ∧ o78Z ≤ 160 := inv_at hI76 o78E o78K.symm rfl
    have g86 : 0 ≤ o79Z ∧ o79Z ≤ 160 := inv_at hI76 o79E o79K.symm rfl
    rcases (by (first | decide +kernel | omega) : o82Z ≠ 0 ∧ x_cN b (x_en b p0) 0 99 ≠ 0 ∨ o82Z ≠ 0 ∧ x_cN b (x_en b p0) 0 99 = 0 ∨ o82Z = 0) with c87 | c87 | c87
    ·
      replace p75 := And.intro ((p75.1.resolve_left (fun q => by (first | decide +kernel | omega))).resolve_right (fun q => by (first | decide +kernel | omega))) p75.2
      have g88 := x_cN_s b (x_en b p0) 0 99
      have g89 := x_cS_s b (x_en b (x_en b p0))
      refine N_iast sk_119 z72E (by (first | decide +kernel | omega)) d_Mod_readLineOf_136 (fun h90 eh90 => ?_)
      have hI91 : Inv h90 := inv_full hI76 eh90 (st_lo (by (first | decide +kernel | omega)))
      have f92 : fr S_Mod_readLineOfX_8 h h90 := fr_put f77 eh90 rfl
      refine V_goto 152 d_Mod_readLineOf_137 (by decide) ?_
      exact V_vret rfl d_Mod_readLineOf_152 ⟨rfl, ⟨hI91, f92, o78, o78Z, o78E, (kn_ne eh90 o78K (by decide)), o79, o79Z, o79E, (kn_ne eh90 o79K (by decide)), o80, o80Z, o80E, (kn_ne eh90 o80K (by decide)), o81, o81Z, o81E, (kn_ne eh90 o81K (by decide)), o82, o82Z, o82E, (kn_ne eh90 o82K (by decide)), o83, o83Z, o83E, (kn_ne eh90 o83K (by decide)), ⟨Or.inl ⟨by (first | decide +kernel | omega), (show x_l5 b T p0 = (x_cN b (x_en b p0) 0 99, x_fr b (x_en b p0)) from by unfold x_l5; rw [x_sq_n (c := x_cN b p0 0 3) (by (first | decide +kernel | omega)), x_sq_n (c := x_c4 (T 5 (x_vl b p0))) (by (first | decide +kernel | omega)), x_sq_y (c := x_cN b (x_en b p0) 0 99) (by (first | decide +kernel | omega))]).trans (pq (by (first | decide +kernel | omega)) (by (first | decide +kernel | omega)))⟩, by (first | decide +kernel | omega), by (first | decide +kernel | omega), by (first | decide +kernel | omega)⟩⟩⟩
    ·
      replace p75 := And.intro ((p75.1.resolve_left (fun q => by (first | decide +kernel | omega))).resolve_left (fun q => by (first | decide +kernel | omega))).2.1 (And.intro ((p75.1.resolve_left (fun q => by (first | decide +kernel | omega))).resolve_left (fun q => by (first | decide +kernel | omega))).2.2.1 (And.intro (((p75.1.resolve_left (fun q => by (first | decide +kernel | omega))).resolve_left (fun q => by (first | decide +kernel | omega))).2.2.2.resolve_right (fun q => by (first | decide +kernel | omega))) p75.2))
      have g93 := x_cN_0 p75.1
      have g94 := x_cS_4 (b := b) (p := (x_en b (x_en b p0))) (by (first | decide +kernel | omega))
      have g95 := x_cN_s b (x_en b p0) 0 99
      have g96 := x_cS_s b (x_en b (x_en b p0))
      refine N_iast sk_119 z72E (by (first | decide +kernel | omega)) d_Mod_readLineOf_136 (fun h97 eh97 => ?_)
      have hI98 : Inv h97 := inv_full hI76 eh97 (st_lo (by (first | decide +kernel | omega)))
      have f99 : fr S_Mod_readLineOfX_8 h h97 := fr_put f77 eh97 rfl
      refine V_goto 152 d_Mod_readLineOf_137 (by decide) ?_
      exact V_vret rfl d_Mod_readLineOf_152 ⟨rfl, ⟨hI98, f99, o78, o78Z, o78E, (kn_ne eh97 o78K (by decide)), o79, o79Z, o79E, (kn_ne eh97 o79K (by decide)), o80, o80Z, o80E, (kn_ne eh97 o80K (by decide)), o81, o81Z, o81E, (kn_ne eh97 o81K (by decide)), o82, o82Z, o82E, (kn_ne eh97 o82K (by decide)), o83, o83Z, o83E, (kn_ne eh97 o83K (by decide)), ⟨Or.inl ⟨by (first | decide +kernel | omega), (show x_l5 b T p0 = (x_cS b (x_en b (x_en b p0)), x_fr b (x_en b (x_en b p0))) from by unfold x_l5; rw [x_sq_n (c := x_cN b p0 0 3) (by (first | decide +kernel | omega)), x_sq_n (c := x_c4 (T 5 (x_vl b p0))) (by (first | decide +kernel | omega)), x_sq_n (c := x_cN b (x_en b p0) 0 99) (by (first | decide +kernel | omega)), x_sq_y (c := x_cS b (x_en b (x_en b p0))) (by (first | decide +kernel | omega))]).trans (pq (by (first | decide +kernel | omega)) (by (first | decide +kernel | omega)))⟩, by (first | decide +kernel | omega), by (first | decide +kernel | omega), by (first | decide +kernel | omega)⟩⟩⟩
    ·
      replace p75 := And.intro ((p75.1.resolve_left (fun q => by (first | decide +kernel | omega))).resolve_left (fun q => by (first | decide +kernel | omega))).2.1 (And.intro ((p75.1.resolve_left (fun q => by (first | decide +kernel | omega))).resolve_left (fun q => by (first | decide +kernel | omega))).2.2.1 (And.intro (((p75.1.resolve_left (fun q => by (first | decide +kernel | omega))).resolve_left (fun q => by (first | decide +kernel | omega))).2.2.2.resolve_left (fun q => by (first | decide +kernel | omega))) p75.2))
      have g100 := x_cN_0 p75.1
      refine N_iast sk_119 z72E (by (first | decide +kernel | omega)) d_Mod_readLineOf_136 (fun h101 eh101 => ?_)
      have hI102 : Inv h101 := inv_full hI76 eh101 (st_lo (by (first | decide +kernel | omega)))
      have f103 : fr S_Mod_readLineOfX_8 h h101 := fr_put f77 eh101 rfl
      have R104 : RM h101 (x_upT T 5 (x_vl b p0)) (x_up D (80 + (x_vl b p0)) (x_vl b (x_en b p0))) := RM_put R84 eh101 (Or.inl ⟨rfl, by (first | decide +kernel | omega), rfl⟩) (z73E.trans (by (first | decide +kernel | omega))) (by (first | decide +kernel | omega))
      refine V_goto 152 d_Mod_readLineOf_137 (by decide) ?_
      exact V_vret rfl d_Mod_readLineOf_152 ⟨rfl, ⟨hI102, f103, o78, o78Z, o78E, (kn_ne eh101 o78K (by decide)), o79, o79Z, o79E, (kn_ne eh101 o79K (by decide)), o80, o80Z, o80E, (kn_ne eh101 o80K (by decide)), o81, o81Z, o81E, (kn_ne eh101 o81K (by decide)), o82, o82Z, o82E, (kn_ne eh101 o82K (by decide)), o83, o83Z, o83E, (kn_ne eh101 o83K (by decide)), ⟨Or.inr ⟨by (first | decide +kernel | omega), by unfold x_l5; rw [x_sq_n (c := x_cN b p0 0 3) (by (first | decide +kernel | omega)), x_sq_n (c := x_c4 (T 5 (x_vl b p0))) (by (first | decide +kernel | omega)), x_sq_n (c := x_cN b (x_en b p0) 0 99) (by (first | decide +kernel | omega))], p75.2.2.1.2, R104⟩, by (first | decide +kernel | omega), by (first | decide +kernel | omega), by (first | decide +kernel | omega)⟩⟩⟩
def S_Mod_readLineOfX_9 : List (Nat × Option Nat) := [(116, some 16), (116, some 17), (116, some 18), (116, some 19), (116, some 20), (116, some 21), (119, none)]
abbrev q_Mod_readLineOfX_9 (h : Hp) (b : Int → Int) (T : Nat → Int → Int) (D : Nat → Int) (p0 : Int) (s : Int32) (sZ : Int) (p : Int32) (pZ : Int) (g : Int32) (gZ : Int) (k : Int32) (kZ : Int) (v : Int32) (vZ : Int) (w : Int32) (wZ : Int) (a : Int32) (aZ : Int) (m : Int32) (mZ : Int) : Option Value → Hp → Prop := pVd (fun h' => Inv h' ∧ fr S_Mod_readLineOfX_9 h h' ∧ ∃ (q : Int32) (qZ : Int), q.toInt = qZ ∧ h'.1 116 16 = q ∧ ∃ (f : Int32) (fZ : Int), f.toInt = fZ ∧ h'.1 116 17 = f ∧ ∃ (m : Int32) (mZ : Int), m.toInt = mZ ∧ h'.1 116 18 = m ∧ ∃ (x : Int32) (xZ : Int), x.toInt = xZ ∧ h'.1 116 19 = x ∧ ∃ (u : Int32) (uZ : Int), u.toInt = uZ ∧ h'.1 116 20 = u ∧ ∃ (y : Int32) (yZ : Int), y.toInt = yZ ∧ h'.1 116 21 = y ∧ ((uZ ≠ 0 ∧ x_l9 b T p0 = (uZ, yZ) ∨ uZ = 0 ∧ x_l9 b T p0 = x_sq (x_cS b (x_en b (x_en b (x_en b p0)))) (x_fr b (x_en b (x_en b (x_en b p0)))) (0, x_en b (x_en b (x_en b (x_en b p0)))) ∧ (fZ = x_fr b (x_en b (x_en b (x_en b p0))) ∧ mZ = x_kd b (x_en b (x_en b (x_en b p0))) ∧ mZ ≠ 4 ∧ 0 ≤ mZ ∧ mZ ≤ 3 ∧ qZ = x_en b (x_en b (x_en b (x_en b p0))) ∧ (mZ ≠ 2 ∨ xZ = x_vl b (x_en b (x_en b (x_en b p0))) ∧ 0 ≤ xZ ∧ xZ ≤ 99) ∧ (x_en b (x_en b (x_en b p0))) ≤ fZ ∧ fZ ≤ qZ ∧ qZ ≤ sZ ∧ (mZ = 0 ∨ fZ < qZ)) ∧ RM h' T (x_up (x_up (x_up (x_up D (87 + 3 * D 86) (x_vl b p0)) (88 + 3 * D 86) (x_vl b (x_en b p0))) (89 + 3 * D 86) (x_vl b (x_en b (x_en b p0)))) 86 (D 86 + 1))) ∧ 0 ≤ qZ ∧ qZ ≤ sZ ∧ 0 ≤ uZ))
set_option maxRecDepth 100000 in
theorem c_Mod_readLineOfX_9 (h : Hp) (b : Int → Int) (T : Nat → Int → Int) (D : Nat → Int) (p0 : Int) (hI : Inv h) (s : Int32) (sZ : Int) (sE : s.toInt = sZ) (sK : h.1 116 15 = s) (p : Int32) (pZ : Int) (pE : p.toInt = pZ) (pK : h.1 116 16 = p) (g : Int32) (gZ : Int) (gE : g.toInt = gZ) (gK : h.1 116 17 = g) (k : Int32) (kZ : Int) (kE : k.toInt = kZ) (kK : h.1 116 18 = k) (v : Int32) (vZ : Int) (vE : v.toInt = vZ) (vK : h.1 116 19 = v) (w : Int32) (wZ : Int) (wE : w.toInt = wZ) (wK : h.1 116 20 = w) (a : Int32) (aZ : Int) (aE : a.toInt = aZ) (aK : h.1 116 21 = a) (m : Int32) (mZ : Int) (mE : m.toInt = mZ) (mK : h.1 119 86 = m) (hy0 : TP h 121 sZ b) (hy1 : 0 ≤ pZ ∧ pZ ≤ sZ ∧ wZ = 0) (hy2 : gZ = x_fr b p0 ∧ kZ = x_kd b p0 ∧ kZ ≠ 4 ∧ 0 ≤ kZ ∧ kZ ≤ 3 ∧ pZ = x_en b p0 ∧ (kZ ≠ 2 ∨ vZ = x_vl b p0 ∧ 0 ≤ vZ ∧ vZ ≤ 99) ∧ p0 ≤ gZ ∧ gZ ≤ pZ ∧ pZ ≤ sZ ∧ (kZ = 0 ∨ gZ < pZ)) (hy3 : RM h T D) (hy4 : mZ < 8) : Ct y_Mod_readLineOf b_Mod_readLineOf 3 none 4 92 [.ref 116, .int 9] h (q_Mod_readLineOfX_9 h b T D p0 s sZ p pZ g gZ k kZ v vZ w wZ a aZ m mZ) := by
  refine ct_ow R_Mod [some (.ref 116), some (.int 9), none] rfl (by decide) rfl (Nat.le_of_ble_eq_true rfl) ?_
  have f0 : fr S_Mod_readLineOfX_9 h h := fr_rf
  have g1 : 0 ≤ sZ ∧ sZ ≤ 160 := inv_at hI sE sK.symm rfl
  have g2 : 0 ≤ pZ ∧ pZ ≤ 160 := inv_at hI pE pK.symm rfl
  have g3 : 0 ≤ gZ ∧ gZ ≤ 160 := inv_at hI gE gK.symm rfl
  refine V_iload_n 1 d_Mod_readLineOf_0 rfl rfl ?_
  refine V_tabIn 140 tc_9 d_Mod_readLineOf_1 (by decide) (by decide) rfl (by decide) ?_
  refine V_aload_n 0 d_Mod_readLineOf_140 rfl rfl ?_
  refine N_callVV [] [] cv_Mod_167 sk_116 rfl d_Mod_readLineOf_141 rfl (Nat.le_of_ble_eq_true rfl) (by decide) (by decide) (c_Mod_readDebtX h b T D p0 hI s sZ sE sK p pZ pE pK g gZ gE gK k kZ kE kK v vZ vE vK w wZ wE wK a aZ aE aK m mZ mE mK (TP_fr f0 (fun _ => rfl) hy0) (by (first | decide +kernel | omega)) ⟨by (first | decide +kernel | omega), by (first | decide +kernel | omega), by (first | decide +kernel | omega), by (first | decide +kernel | omega), by (first | decide +kernel | omega), by (first | decide +kernel | omega), by (first | decide +kernel | omega), by (first | decide +kernel | omega), by (first | decide +kernel | omega), by (first | decide +kernel | omega), by (first | decide +kernel | omega)⟩ hy3 (by (first | decide +kernel | omega))) (fun h5 p6 => ?_)
  obtain ⟨hI7, fh5, o9, o9Z, o9E, o9K, o10, o10Z, o10E, o10K, o11, o11Z, o11E, o11K, o12, o12Z, o12E, o12K, o13, o13Z, o13E, o13K, o14, o14Z, o14E, o14K, p6⟩ := p6
  have f8 : fr S_Mod_readLineOfX_9 h h5 := fr_call f0 fh5 rfl
  have g15 : 0 ≤ o9Z ∧ o9Z ≤ 160 := inv_at hI7 o9E o9K.symm rfl
  have g16 : 0 ≤ o10Z ∧ o10Z ≤ 160 := inv_at hI7 o10E o10K.symm rfl
  refine V_goto 152 d_Mod_readLineOf_144 (by decide) ?_
  exact V_vret rfl d_Mod_readLineOf_152 ⟨rfl, ⟨hI7, f8, o9, o9Z, o9E, o9K, o10, o10Z, o10E, o10K, o11, o11Z, o11E, o11K, o12, o12Z, o12E, o12K, o13, o13Z, o13E, o13K, o14, o14Z, o14E, o14K, p6⟩⟩
