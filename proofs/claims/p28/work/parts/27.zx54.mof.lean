section
def S_Mod_readLineOfX_0 : List (Nat × Option Nat) := [(116, some 16), (116, some 17), (116, some 18), (116, some 19), (116, some 20), (116, some 21), (116, some 7), (116, some 8)]
abbrev q_Mod_readLineOfX_0 (h : Hp) (b : Int → Int) (T : Nat → Int → Int) (D : Nat → Int) (p0 : Int) (s : Int32) (sZ : Int) (p : Int32) (pZ : Int) (g : Int32) (gZ : Int) (k : Int32) (kZ : Int) (v : Int32) (vZ : Int) (w : Int32) (wZ : Int) (a : Int32) (aZ : Int) : Option Value → Hp → Prop := pVd (fun h' => Inv h' ∧ fr S_Mod_readLineOfX_0 h h' ∧ ∃ (q : Int32) (qZ : Int), q.toInt = qZ ∧ h'.1 116 16 = q ∧ ∃ (f : Int32) (fZ : Int), f.toInt = fZ ∧ h'.1 116 17 = f ∧ ∃ (m : Int32) (mZ : Int), m.toInt = mZ ∧ h'.1 116 18 = m ∧ ∃ (x : Int32) (xZ : Int), x.toInt = xZ ∧ h'.1 116 19 = x ∧ ∃ (u : Int32) (uZ : Int), u.toInt = uZ ∧ h'.1 116 20 = u ∧ ∃ (y : Int32) (yZ : Int), y.toInt = yZ ∧ h'.1 116 21 = y ∧ ((uZ ≠ 0 ∧ x_l0 b T p0 = (uZ, yZ) ∨ uZ = 0 ∧ x_l0 b T p0 = x_sq (x_cS b (x_en b (x_en b p0))) (x_fr b (x_en b (x_en b p0))) (0, x_en b (x_en b (x_en b p0))) ∧ (fZ = x_fr b (x_en b (x_en b p0)) ∧ mZ = x_kd b (x_en b (x_en b p0)) ∧ mZ ≠ 4 ∧ 0 ≤ mZ ∧ mZ ≤ 3 ∧ qZ = x_en b (x_en b (x_en b p0)) ∧ (mZ ≠ 2 ∨ xZ = x_vl b (x_en b (x_en b p0)) ∧ 0 ≤ xZ ∧ xZ ≤ 99) ∧ (x_en b (x_en b p0)) ≤ fZ ∧ fZ ≤ qZ ∧ qZ ≤ sZ ∧ (mZ = 0 ∨ fZ < qZ)) ∧ RM h' T (x_up (x_up D 144 (x_vl b p0)) 145 (x_vl b (x_en b p0)))) ∧ 0 ≤ qZ ∧ qZ ≤ sZ ∧ 0 ≤ uZ))
set_option maxRecDepth 100000 in
theorem c_Mod_readLineOfX_0 (h : Hp) (b : Int → Int) (T : Nat → Int → Int) (D : Nat → Int) (p0 : Int) (hI : Inv h) (s : Int32) (sZ : Int) (sE : s.toInt = sZ) (sK : h.1 116 15 = s) (p : Int32) (pZ : Int) (pE : p.toInt = pZ) (pK : h.1 116 16 = p) (g : Int32) (gZ : Int) (gE : g.toInt = gZ) (gK : h.1 116 17 = g) (k : Int32) (kZ : Int) (kE : k.toInt = kZ) (kK : h.1 116 18 = k) (v : Int32) (vZ : Int) (vE : v.toInt = vZ) (vK : h.1 116 19 = v) (w : Int32) (wZ : Int) (wE : w.toInt = wZ) (wK : h.1 116 20 = w) (a : Int32) (aZ : Int) (aE : a.toInt = aZ) (aK : h.1 116 21 = a) (hy0 : TP h 121 sZ b) (hy1 : 0 ≤ pZ ∧ pZ ≤ sZ ∧ wZ = 0) (hy2 : gZ = x_fr b p0 ∧ kZ = x_kd b p0 ∧ kZ ≠ 4 ∧ 0 ≤ kZ ∧ kZ ≤ 3 ∧ pZ = x_en b p0 ∧ (kZ ≠ 2 ∨ vZ = x_vl b p0 ∧ 0 ≤ vZ ∧ vZ ≤ 99) ∧ p0 ≤ gZ ∧ gZ ≤ pZ ∧ pZ ≤ sZ ∧ (kZ = 0 ∨ gZ < pZ)) (hy3 : RM h T D) : Ct y_Mod_readLineOf b_Mod_readLineOf 3 none 3 70 [.ref 116, .int 0] h (q_Mod_readLineOfX_0 h b T D p0 s sZ p pZ g gZ k kZ v vZ w wZ a aZ) := by
  refine ct_ow R_Mod [some (.ref 116), some (.int 0), none] rfl (by decide) rfl (Nat.le_of_ble_eq_true rfl) ?_
  have f0 : fr S_Mod_readLineOfX_0 h h := fr_rf
  have g1 : 0 ≤ sZ ∧ sZ ≤ 160 := inv_at hI sE sK.symm rfl
  have g2 : 0 ≤ pZ ∧ pZ ≤ 160 := inv_at hI pE pK.symm rfl
  have g3 : 0 ≤ gZ ∧ gZ ≤ 160 := inv_at hI gE gK.symm rfl
  refine V_iload_n 1 d_Mod_readLineOf_0 rfl rfl ?_
  refine V_tabIn 56 tc_0 d_Mod_readLineOf_1 (by decide) (by decide) rfl (by decide) ?_
  refine V_aload_n 0 d_Mod_readLineOf_56 rfl rfl ?_
  refine V_aload_n 0 d_Mod_readLineOf_57 rfl rfl ?_
  refine V_iconst 2 d_Mod_readLineOf_58 (by decide) ?_
  refine V_iconst 4 d_Mod_readLineOf_59 (by decide) ?_
  refine N_callVI [.int 2, .int 4] [.ref 116] cv_Mod_158 sk_116 rfl d_Mod_readLineOf_60 rfl (Nat.le_of_ble_eq_true rfl) (by decide) (by decide) (c_Mod_readNumberX h b p0 hI 2 2 tc_2 4 4 tc_4 s sZ sE sK p pZ pE pK g gZ gE gK k kZ kE kK v vZ vE vK w wZ wE wK a aZ aE aK (TP_fr f0 (fun _ => rfl) hy0) (by (first | decide +kernel | omega)) (Or.inr ⟨by (first | decide +kernel | omega), by (first | decide +kernel | omega), by (first | decide +kernel | omega), by (first | decide +kernel | omega), by (first | decide +kernel | omega), by (first | decide +kernel | omega), by (first | decide +kernel | omega), by (first | decide +kernel | omega), by (first | decide +kernel | omega), by (first | decide +kernel | omega), by (first | decide +kernel | omega)⟩)) (fun z4 h5 z4Z z4E p6 => ?_)
  obtain ⟨hI7, fh5, o9, o9Z, o9E, o9K, o10, o10Z, o10E, o10K, o11, o11Z, o11E, o11K, o12, o12Z, o12E, o12K, o13, o13Z, o13E, o13K, o14, o14Z, o14E, o14K, p6⟩ := p6
  have f8 : fr S_Mod_readLineOfX_0 h h5 := fr_call f0 fh5 rfl
  have R15 : RM h5 T D := RM_fr fh5 rfl hy3
  have g16 : 0 ≤ o9Z ∧ o9Z ≤ 160 := inv_at hI7 o9E o9K.symm rfl
  have g17 : 0 ≤ o10Z ∧ o10Z ≤ 160 := inv_at hI7 o10E o10K.symm rfl
  rcases (dj3 _ _ : o13Z ≠ 0 ∧ x_cN b p0 2 4 ≠ 0 ∨ o13Z ≠ 0 ∧ x_cN b p0 2 4 = 0 ∨ o13Z = 0) with c18 | c18 | c18
  ·
    replace p6 := And.intro ((p6.1.resolve_left (fun q => by (first | decide +kernel | omega))).resolve_right (fun q => by (first | decide +kernel | omega))) p6.2
    refine N_putI fp_Mod_62 sk_116 rfl d_Mod_readLineOf_63 (fun h19 eh19 => ?_)
    have hI20 : Inv h19 := inv_put (lo := 0) (hi := 4) hI7 eh19 rfl z4E (by (first | decide +kernel | omega))
    have f21 : fr S_Mod_readLineOfX_0 h h19 := fr_put f8 eh19 rfl
    refine V_aload_n 0 d_Mod_readLineOf_66 rfl rfl ?_
    refine V_aload_n 0 d_Mod_readLineOf_67 rfl rfl ?_
    refine V_iconst 2 d_Mod_readLineOf_68 (by decide) ?_
    refine V_iconst 4 d_Mod_readLineOf_69 (by decide) ?_
    refine N_callVI [.int 2, .int 4] [.ref 116] cv_Mod_158 sk_116 rfl d_Mod_readLineOf_70 rfl (Nat.le_of_ble_eq_true rfl) (by decide) (by decide) (c_Mod_readNumberX h19 b (x_en b p0) hI20 2 2 tc_2 4 4 tc_4 s sZ sE (kn_nei eh19 (kn_call fh5 sK rfl) (by decide)) o9 o9Z o9E (kn_nei eh19 o9K (by decide)) o10 o10Z o10E (kn_nei eh19 o10K (by decide)) o11 o11Z o11E (kn_nei eh19 o11K (by decide)) o12 o12Z o12E (kn_nei eh19 o12K (by decide)) o13 o13Z o13E (kn_nei eh19 o13K (by decide)) o14 o14Z o14E (kn_nei eh19 o14K (by decide)) (TP_fr f21 (fun _ => rfl) hy0) (by (first | decide +kernel | omega)) (Or.inl (by (first | decide +kernel | omega)))) (fun z22 h23 z22Z z22E p24 => ?_)
    obtain ⟨hI25, fh23, o27, o27Z, o27E, o27K, o28, o28Z, o28E, o28K, o29, o29Z, o29E, o29K, o30, o30Z, o30E, o30K, o31, o31Z, o31E, o31K, o32, o32Z, o32E, o32K, p24⟩ := p24
    have f26 : fr S_Mod_readLineOfX_0 h h23 := fr_call f21 fh23 rfl
    have g33 : 0 ≤ o27Z ∧ o27Z ≤ 160 := inv_at hI25 o27E o27K.symm rfl
    have g34 : 0 ≤ o28Z ∧ o28Z ≤ 160 := inv_at hI25 o28E o28K.symm rfl
    replace p24 := And.intro (p24.1.resolve_right (fun q => by (first | decide +kernel | omega))) p24.2
    refine N_putI fp_Mod_66 sk_116 rfl d_Mod_readLineOf_73 (fun h35 eh35 => ?_)
    have hI36 : Inv h35 := inv_put (lo := 0) (hi := 4) hI25 eh35 rfl z22E (by (first | decide +kernel | omega))
    have f37 : fr S_Mod_readLineOfX_0 h h35 := fr_put f26 eh35 rfl
    refine V_goto 152 d_Mod_readLineOf_76 (by decide) ?_
    exact V_vret rfl d_Mod_readLineOf_152 ⟨rfl, ⟨hI36, f37, o27, o27Z, o27E, (kn_nei eh35 o27K (by decide)), o28, o28Z, o28E, (kn_nei eh35 o28K (by decide)), o29, o29Z, o29E, (kn_nei eh35 o29K (by decide)), o30, o30Z, o30E, (kn_nei eh35 o30K (by decide)), o31, o31Z, o31E, (kn_nei eh35 o31K (by decide)), o32, o32Z, o32E, (kn_nei eh35 o32K (by decide)), ⟨Or.inl ⟨by (first | decide +kernel | omega), (show x_l0 b T p0 = (x_cN b p0 2 4, x_fr b p0) from by unfold x_l0; rw [x_sq_y (c := x_cN b p0 2 4) (by (first | decide +kernel | omega))]).trans (pq (by (first | decide +kernel | omega)) (by (first | decide +kernel | omega)))⟩, by (first | decide +kernel | omega), by (first | decide +kernel | omega), by (first | decide +kernel | omega)⟩⟩⟩
  ·
    replace p6 := And.intro ((p6.1.resolve_left (fun q => by (first | decide +kernel | omega))).resolve_left (fun q => by (first | decide +kernel | omega))).2.1 (And.intro ((p6.1.resolve_left (fun q => by (first | decide +kernel | omega))).resolve_left (fun q => by (first | decide +kernel | omega))).2.2.1 (And.intro (((p6.1.resolve_left (fun q => by (first | decide +kernel | omega))).resolve_left (fun q => by (first | decide +kernel | omega))).2.2.2.resolve_right (fun q => by (first | decide +kernel | omega))) p6.2))
    have g38 := x_cN_0 p6.1
    have g39 := x_cN_4 (b := b) (p := (x_en b p0)) 2 4 (by (first | decide +kernel | omega))
    refine N_putI fp_Mod_62 sk_116 rfl d_Mod_readLineOf_63 (fun h40 eh40 => ?_)
    have hI41 : Inv h40 := inv_put (lo := 0) (hi := 4) hI7 eh40 rfl z4E (by (first | decide +kernel | omega))
    have f42 : fr S_Mod_readLineOfX_0 h h40 := fr_put f8 eh40 rfl
    refine V_aload_n 0 d_Mod_readLineOf_66 rfl rfl ?_
    refine V_aload_n 0 d_Mod_readLineOf_67 rfl rfl ?_
    refine V_iconst 2 d_Mod_readLineOf_68 (by decide) ?_
    refine V_iconst 4 d_Mod_readLineOf_69 (by decide) ?_
    refine N_callVI [.int 2, .int 4] [.ref 116] cv_Mod_158 sk_116 rfl d_Mod_readLineOf_70 rfl (Nat.le_of_ble_eq_true rfl) (by decide) (by decide) (c_Mod_readNumberX h40 b (x_en b p0) hI41 2 2 tc_2 4 4 tc_4 s sZ sE (kn_nei eh40 (kn_call fh5 sK rfl) (by decide)) o9 o9Z o9E (kn_nei eh40 o9K (by decide)) o10 o10Z o10E (kn_nei eh40 o10K (by decide)) o11 o11Z o11E (kn_nei eh40 o11K (by decide)) o12 o12Z o12E (kn_nei eh40 o12K (by decide)) o13 o13Z o13E (kn_nei eh40 o13K (by decide)) o14 o14Z o14E (kn_nei eh40 o14K (by decide)) (TP_fr f42 (fun _ => rfl) hy0) (by (first | decide +kernel | omega)) (Or.inl (by (first | decide +kernel | omega)))) (fun z43 h44 z43Z z43E p45 => ?_)
    obtain ⟨hI46, fh44, o48, o48Z, o48E, o48K, o49, o49Z, o49E, o49K, o50, o50Z, o50E, o50K, o51, o51Z, o51E, o51K, o52, o52Z, o52E, o52K, o53, o53Z, o53E, o53K, p45⟩ := p45
    have f47 : fr S_Mod_readLineOfX_0 h h44 := fr_call f42 fh44 rfl
    have g54 : 0 ≤ o48Z ∧ o48Z ≤ 160 := inv_at hI46 o48E o48K.symm rfl
    have g55 : 0 ≤ o49Z ∧ o49Z ≤ 160 := inv_at hI46 o49E o49K.symm rfl
    replace p45 := And.intro (p45.1.resolve_right (fun q => by (first | decide +kernel | omega))) p45.2
    refine N_putI fp_Mod_66 sk_116 rfl d_Mod_readLineOf_73 (fun h56 eh56 => ?_)
    have hI57 : Inv h56 := inv_put (lo := 0) (hi := 4) hI46 eh56 rfl z43E (by (first | decide +kernel | omega))
    have f58 : fr S_Mod_readLineOfX_0 h h56 := fr_put f47 eh56 rfl
    refine V_goto 152 d_Mod_readLineOf_76 (by decide) ?_
    exact V_vret rfl d_Mod_readLineOf_152 ⟨rfl, ⟨hI57, f58, o48, o48Z, o48E, (kn_nei eh56 o48K (by decide)), o49, o49Z, o49E, (kn_nei eh56 o49K (by decide)), o50, o50Z, o50E, (kn_nei eh56 o50K (by decide)), o51, o51Z, o51E, (kn_nei eh56 o51K (by decide)), o52, o52Z, o52E, (kn_nei eh56 o52K (by decide)), o53, o53Z, o53E, (kn_nei eh56 o53K (by decide)), ⟨Or.inl ⟨by (first | decide +kernel | omega), (show x_l0 b T p0 = (x_cN b (x_en b p0) 2 4, x_fr b (x_en b p0)) from by unfold x_l0; rw [x_sq_n (c := x_cN b p0 2 4) (by (first | decide +kernel | omega)), x_sq_y (c := x_cN b (x_en b p0) 2 4) (by (first | decide +kernel | omega))]).trans (pq (by (first | decide +kernel | omega)) (by (first | decide +kernel | omega)))⟩, by (first | decide +kernel | omega), by (first | decide +kernel | omega), by (first | decide +kernel | omega)⟩⟩⟩
  ·
    replace p6 := And.intro ((p6.1.resolve_left (fun q => by (first | decide +kernel | omega))).resolve_left (fun q => by (first | decide +kernel | omega))).2.1 (And.intro ((p6.1.resolve_left (fun q => by (first | decide +kernel | omega))).resolve_left (fun q => by (first | decide +kernel | omega))).2.2.1 (And.intro (((p6.1.resolve_left (fun q => by (first | decide +kernel | omega))).resolve_left (fun q => by (first | decide +kernel | omega))).2.2.2.resolve_left (fun q => by (first | decide +kernel | omega))) p6.2))
    have g59 := x_cN_0 p6.1
    refine N_putI fp_Mod_62 sk_116 rfl d_Mod_readLineOf_63 (fun h60 eh60 => ?_)
    have hI61 : Inv h60 := inv_put (lo := 0) (hi := 4) hI7 eh60 rfl z4E (by (first | decide +kernel | omega))
    have f62 : fr S_Mod_readLineOfX_0 h h60 := fr_put f8 eh60 rfl
    have R63 : RM h60 T (x_up D 144 (x_vl b p0)) := RM_put R15 eh60 (Or.inr ⟨rfl, by decide, by decide, rfl⟩) (z4E.trans (by (first | decide +kernel | omega))) (by (first | decide +kernel | omega))
    refine V_aload_n 0 d_Mod_readLineOf_66 rfl rfl ?_
    refine V_aload_n 0 d_Mod_readLineOf_67 rfl rfl ?_
    refine V_iconst 2 d_Mod_readLineOf_68 (by decide) ?_
    refine V_iconst 4 d_Mod_readLineOf_69 (by decide) ?_
    refine N_callVI [.int 2, .int 4] [.ref 116] cv_Mod_158 sk_116 rfl d_Mod_readLineOf_70 rfl (Nat.le_of_ble_eq_true rfl) (by decide) (by decide) (c_Mod_readNumberX h60 b (x_en b p0) hI61 2 2 tc_2 4 4 tc_4 s sZ sE (kn_nei eh60 (kn_call fh5 sK rfl) (by decide)) o9 o9Z o9E (kn_nei eh60 o9K (by decide)) o10 o10Z o10E (kn_nei eh60 o10K (by decide)) o11 o11Z o11E (kn_nei eh60 o11K (by decide)) o12 o12Z o12E (kn_nei eh60 o12K (by decide)) o13 o13Z o13E (kn_nei eh60 o13K (by decide)) o14 o14Z o14E (kn_nei eh60 o14K (by decide)) (TP_fr f62 (fun _ => rfl) hy0) (by (first | decide +kernel | omega)) (Or.inr ⟨by (first | decide +kernel | omega), by (first | decide +kernel | omega), by (first | decide +kernel | omega), by (first | decide +kernel | omega), by (first | decide +kernel | omega), by (first | decide +kernel | omega), by (first | decide +kernel | omega), by (first | decide +kernel | omega), by (first | decide +kernel | omega), by (first | decide +kernel | omega), by (first | decide +kernel | omega)⟩)) (fun z64 h65 z64Z z64E p66 => ?_)
    obtain ⟨hI67, fh65, o69, o69Z, o69E, o69K, o70, o70Z, o70E, o70K, o71, o71Z, o71E, o71K, o72, o72Z, o72E, o72K, o73, o73Z, o73E, o73K, o74, o74Z, o74E, o74K, p66⟩ := p66
    have f68 : fr S_Mod_readLineOfX_0 h h65 := fr_call f62 fh65 rfl
    have R75 : RM h65 T (x_up D 144 (x_vl b p0)) := RM_fr fh65 rfl R63
    have g76 : 0 ≤ o69Z ∧ o69Z ≤ 160 := inv_at hI67 o69E o69K.symm rfl
    have g77 : 0 ≤ o70Z ∧ o70Z ≤ 160 := inv_at hI67 o70E o70K.symm rfl
    rcases (dj3 _ _ : o73Z ≠ 0 ∧ x_cN b (x_en b p0) 2 4 ≠ 0 ∨ o73Z ≠ 0 ∧ x_cN b (x_en b p0) 2 4 = 0 ∨ o73Z = 0) with c78 | c78 | c78
    ·
      replace p66 := And.intro ((p66.1.resolve_left (fun q => by (first | decide +kernel | omega))).resolve_right (fun q => by (first | decide +kernel | omega))) p66.2
      refine N_putI fp_Mod_66 sk_116 rfl d_Mod_readLineOf_73 (fun h79 eh79 => ?_)
      have hI80 : Inv h79 := inv_put (lo := 0) (hi := 4) hI67 eh79 rfl z64E (by (first | decide +kernel | omega))
      have f81 : fr S_Mod_readLineOfX_0 h h79 := fr_put f68 eh79 rfl
      refine V_goto 152 d_Mod_readLineOf_76 (by decide) ?_
      exact V_vret rfl d_Mod_readLineOf_152 ⟨rfl, ⟨hI80, f81, o69, o69Z, o69E, (kn_nei eh79 o69K (by decide)), o70, o70Z, o70E, (kn_nei eh79 o70K (by decide)), o71, o71Z, o71E, (kn_nei eh79 o71K (by decide)), o72, o72Z, o72E, (kn_nei eh79 o72K (by decide)), o73, o73Z, o73E, (kn_nei eh79 o73K (by decide)), o74, o74Z, o74E, (kn_nei eh79 o74K (by decide)), ⟨Or.inl ⟨by (first | decide +kernel | omega), (show x_l0 b T p0 = (x_cN b (x_en b p0) 2 4, x_fr b (x_en b p0)) from by unfold x_l0; rw [x_sq_n (c := x_cN b p0 2 4) (by (first | decide +kernel | omega)), x_sq_y (c := x_cN b (x_en b p0) 2 4) (by (first | decide +kernel | omega))]).trans (pq (by (first | decide +kernel | omega)) (by (first | decide +kernel | omega)))⟩, by (first | decide +kernel | omega), by (first | decide +kernel | omega), by (first | decide +kernel | omega)⟩⟩⟩
    ·
      replace p66 := And.intro ((p66.1.resolve_left (fun q => by (first | decide +kernel | omega))).resolve_left (fun q => by (first | decide +kernel | omega))).2.1 (And.intro ((p66.1.resolve_left (fun q => by (first | decide +kernel | omega))).resolve_left (fun q => by (first | decide +kernel | omega))).2.2.1 (And.intro (((p66.1.resolve_left (fun q => by (first | decide +kernel | omega))).resolve_left (fun q => by (first | decide +kernel | omega))).2.2.2.resolve_right (fun q => by (first | decide +kernel | omega))) p66.2))
      have g82 := x_cN_0 p66.1
      have g83 := x_cS_4 (b := b) (p := (x_en b (x_en b p0))) (by (first | decide +kernel | omega))
      refine N_putI fp_Mod_66 sk_116 rfl d_Mod_readLineOf_73 (fun h84 eh84 => ?_)
      have hI85 : Inv h84 := inv_put (lo := 0) (hi := 4) hI67 eh84 rfl z64E (by (first | decide +kernel | omega))
      have f86 : fr S_Mod_readLineOfX_0 h h84 := fr_put f68 eh84 rfl
      refine V_goto 152 d_Mod_readLineOf_76 (by decide) ?_
      exact V_vret rfl d_Mod_readLineOf_152 ⟨rfl, ⟨hI85, f86, o69, o69Z, o69E, (kn_nei eh84 o69K (by decide)), o70, o70Z, o70E, (kn_nei eh84 o70K (by decide)), o71, o71Z, o71E, (kn_nei eh84 o71K (by decide)), o72, o72Z, o72E, (kn_nei eh84 o72K (by decide)), o73, o73Z, o73E, (kn_nei eh84 o73K (by decide)), o74, o74Z, o74E, (kn_nei eh84 o74K (by decide)), ⟨Or.inl ⟨by (first | decide +kernel | omega), (show x_l0 b T p0 = (x_cS b (x_en b (x_en b p0)), x_fr b (x_en b (x_en b p0))) from by unfold x_l0; rw [x_sq_n (c := x_cN b p0 2 4) (by (first | decide +kernel | omega)), x_sq_n (c := x_cN b (x_en b p0) 2 4) (by (first | decide +kernel | omega)), x_sq_y (c := x_cS b (x_en b (x_en b p0))) (by (first | decide +kernel | omega))]).trans (pq (by (first | decide +kernel | omega)) (by (first | decide +kernel | omega)))⟩, by (first | decide +kernel | omega), by (first | decide +kernel | omega), by (first | decide +kernel | omega)⟩⟩⟩
    ·
      replace p66 := And.intro ((p66.1.resolve_left (fun q => by (first | decide +kernel | omega))).resolve_left (fun q => by (first | decide +kernel | omega))).2.1 (And.intro ((p66.1.resolve_left (fun q => by (first | decide +kernel | omega))).resolve_left (fun q => by (first | decide +kernel | omega))).2.2.1 (And.intro (((p66.1.resolve_left (fun q => by (first | decide +kernel | omega))).resolve_left (fun q => by (first | decide +kernel | omega))).2.2.2.resolve_left (fun q => by (first | decide +kernel | omega))) p66.2))
      have g87 := x_cN_0 p66.1
      refine N_putI fp_Mod_66 sk_116 rfl d_Mod_readLineOf_73 (fun h88 eh88 => ?_)
      have hI89 : Inv h88 := inv_put (lo := 0) (hi := 4) hI67 eh88 rfl z64E (by (first | decide +kernel | omega))
      have f90 : fr S_Mod_readLineOfX_0 h h88 := fr_put f68 eh88 rfl
      have R91 : RM h88 T (x_up (x_up D 144 (x_vl b p0)) 145 (x_vl b (x_en b p0))) := RM_put R75 eh88 (Or.inr ⟨rfl, by decide, by decide, rfl⟩) (z64E.trans (by (first | decide +kernel | omega))) (by (first | decide +kernel | omega))
      refine V_goto 152 d_Mod_readLineOf_76 (by decide) ?_
      exact V_vret rfl d_Mod_readLineOf_152 ⟨rfl, ⟨hI89, f90, o69, o69Z, o69E, (kn_nei eh88 o69K (by decide)), o70, o70Z, o70E, (kn_nei eh88 o70K (by decide)), o71, o71Z, o71E, (kn_nei eh88 o71K (by decide)), o72, o72Z, o72E, (kn_nei eh88 o72K (by decide)), o73, o73Z, o73E, (kn_nei eh88 o73K (by decide)), o74, o74Z, o74E, (kn_nei eh88 o74K (by decide)), ⟨Or.inr ⟨by (first | decide +kernel | omega), by unfold x_l0; rw [x_sq_n (c := x_cN b p0 2 4) (by (first | decide +kernel | omega)), x_sq_n (c := x_cN b (x_en b p0) 2 4) (by (first | decide +kernel | omega))], p66.2.2.1.2, R91⟩, by (first | decide +kernel | omega), by (first | decide +kernel | omega), by (first | decide +kernel | omega)⟩⟩⟩
def S_Mod_readLineOfX_1 : List (Nat × Option Nat) := [(116, some 16), (116, some 17), (116, some 18), (116, some 19), (116, some 20), (116, some 21), (116, some 9)]
abbrev q_Mod_readLineOfX_1 (h : Hp) (b : Int → Int) (T : Nat → Int → Int) (D : Nat → Int) (p0 : Int) (s : Int32) (sZ : Int) (p : Int32) (pZ : Int) (g : Int32) (gZ : Int) (k : Int32) (kZ : Int) (v : Int32) (vZ : Int) (w : Int32) (wZ : Int) (a : Int32) (aZ : Int) : Option Value → Hp → Prop := pVd (fun h' => Inv h' ∧ fr S_Mod_readLineOfX_1 h h' ∧ ∃ (q : Int32) (qZ : Int), q.toInt = qZ ∧ h'.1 116 16 = q ∧ ∃ (f : Int32) (fZ : Int), f.toInt = fZ ∧ h'.1 116 17 = f ∧ ∃ (m : Int32) (mZ : Int), m.toInt = mZ ∧ h'.1 116 18 = m ∧ ∃ (x : Int32) (xZ : Int), x.toInt = xZ ∧ h'.1 116 19 = x ∧ ∃ (u : Int32) (uZ : Int), u.toInt = uZ ∧ h'.1 116 20 = u ∧ ∃ (y : Int32) (yZ : Int), y.toInt = yZ ∧ h'.1 116 21 = y ∧ ((uZ ≠ 0 ∧ x_l6 b T p0 = (uZ, yZ) ∨ uZ = 0 ∧ x_l6 b T p0 = x_sq (x_cS b (x_en b p0)) (x_fr b (x_en b p0)) (0, x_en b (x_en b p0)) ∧ (fZ = x_fr b (x_en b p0) ∧ mZ = x_kd b (x_en b p0) ∧ mZ ≠ 4 ∧ 0 ≤ mZ ∧ mZ ≤ 3 ∧ qZ = x_en b (x_en b p0) ∧ (mZ ≠ 2 ∨ xZ = x_vl b (x_en b p0) ∧ 0 ≤ xZ ∧ xZ ≤ 99) ∧ (x_en b p0) ≤ fZ ∧ fZ ≤ qZ ∧ qZ ≤ sZ ∧ (mZ = 0 ∨ fZ < qZ)) ∧ RM h' T (x_up D 146 (x_vl b p0))) ∧ 0 ≤ qZ ∧ qZ ≤ sZ ∧ 0 ≤ uZ))
set_option maxRecDepth 100000 in
theorem c_Mod_readLineOfX_1 (h : Hp) (b : Int → Int) (T : Nat → Int → Int) (D : Nat → Int) (p0 : Int) (hI : Inv h) (s : Int32) (sZ : Int) (sE : s.toInt = sZ) (sK : h.1 116 15 = s) (p : Int32) (pZ : Int) (pE : p.toInt = pZ) (pK : h.1 116 16 = p) (g : Int32) (gZ : Int) (gE : g.toInt = gZ) (gK : h.1 116 17 = g) (k : Int32) (kZ : Int) (kE : k.toInt = kZ) (kK : h.1 116 18 = k) (v : Int32) (vZ : Int) (vE : v.toInt = vZ) (vK : h.1 116 19 = v) (w : Int32) (wZ : Int) (wE : w.toInt = wZ) (wK : h.1 116 20 = w) (a : Int32) (aZ : Int) (aE : a.toInt = aZ) (aK : h.1 116 21 = a) (hy0 : TP h 121 sZ b) (hy1 : 0 ≤ pZ ∧ pZ ≤ sZ ∧ wZ = 0) (hy2 : gZ = x_fr b p0 ∧ kZ = x_kd b p0 ∧ kZ ≠ 4 ∧ 0 ≤ kZ ∧ kZ ≤ 3 ∧ pZ = x_en b p0 ∧ (kZ ≠ 2 ∨ vZ = x_vl b p0 ∧ 0 ≤ vZ ∧ vZ ≤ 99) ∧ p0 ≤ gZ ∧ gZ ≤ pZ ∧ pZ ≤ sZ ∧ (kZ = 0 ∨ gZ < pZ)) (hy3 : RM h T D) : Ct y_Mod_readLineOf b_Mod_readLineOf 3 none 3 70 [.ref 116, .int 1] h (q_Mod_readLineOfX_1 h b T D p0 s sZ p pZ g gZ k kZ v vZ w wZ a aZ) := by
  refine ct_ow R_Mod [some (.ref 116), some (.int 1), none] rfl (by decide) rfl (Nat.le_of_ble_eq_true rfl) ?_
  have f0 : fr S_Mod_readLineOfX_1 h h := fr_rf
  have g1 : 0 ≤ sZ ∧ sZ ≤ 160 := inv_at hI sE sK.symm rfl
  have g2 : 0 ≤ pZ ∧ pZ ≤ 160 := inv_at hI pE pK.symm rfl
  have g3 : 0 ≤ gZ ∧ gZ ≤ 160 := inv_at hI gE gK.symm rfl
  refine V_iload_n 1 d_Mod_readLineOf_0 rfl rfl ?_
  refine V_tabIn 79 tc_1 d_Mod_readLineOf_1 (by decide) (by decide) rfl (by decide) ?_
  refine V_aload_n 0 d_Mod_readLineOf_79 rfl rfl ?_
  refine V_aload_n 0 d_Mod_readLineOf_80 rfl rfl ?_
  refine V_iconst 1 d_Mod_readLineOf_81 (by decide) ?_
  refine V_bipush 9 d_Mod_readLineOf_82 (by decide) ?_
  refine N_callVI [.int 1, .int 9] [.ref 116] cv_Mod_158 sk_116 rfl d_Mod_readLineOf_84 rfl (Nat.le_of_ble_eq_true rfl) (by decide) (by decide) (c_Mod_readNumberX h b p0 hI 1 1 tc_1 9 9 tc_9 s sZ sE sK p pZ pE pK g gZ gE gK k kZ kE kK v vZ vE vK w wZ wE wK a aZ aE aK (TP_fr f0 (fun _ => rfl) hy0) (by (first | decide +kernel | omega)) (Or.inr ⟨by (first | decide +kernel | omega), by (first | decide +kernel | omega), by (first | decide +kernel | omega), by (first | decide +kernel | omega), by (first | decide +kernel | omega), by (first | decide +kernel | omega), by (first | decide +kernel | omega), by (first | decide +kernel | omega), by (first | decide +kernel | omega), by (first | decide +kernel | omega), by (first | decide +kernel | omega)⟩)) (fun z4 h5 z4Z z4E p6 => ?_)
  obtain ⟨hI7, fh5, o9, o9Z, o9E, o9K, o10, o10Z, o10E, o10K, o11, o11Z, o11E, o11K, o12, o12Z, o12E, o12K, o13, o13Z, o13E, o13K, o14, o14Z, o14E, o14K, p6⟩ := p6
  have f8 : fr S_Mod_readLineOfX_1 h h5 := fr_call f0 fh5 rfl
  have R15 : RM h5 T D := RM_fr fh5 rfl hy3
  have g16 : 0 ≤ o9Z ∧ o9Z ≤ 160 := inv_at hI7 o9E o9K.symm rfl
  have g17 : 0 ≤ o10Z ∧ o10Z ≤ 160 := inv_at hI7 o10E o10K.symm rfl
  rcases (dj3 _ _ : o13Z ≠ 0 ∧ x_cN b p0 1 9 ≠ 0 ∨ o13Z ≠ 0 ∧ x_cN b p0 1 9 = 0 ∨ o13Z = 0) with c18 | c18 | c18
  ·
    replace p6 := And.intro ((p6.1.resolve_left (fun q => by (first | decide +kernel | omega))).resolve_right (fun q => by (first | decide +kernel | omega))) p6.2
    refine N_putI fp_Mod_69 sk_116 rfl d_Mod_readLineOf_87 (fun h19 eh19 => ?_)
    have hI20 : Inv h19 := inv_full hI7 eh19 rfl
    have f21 : fr S_Mod_readLineOfX_1 h h19 := fr_put f8 eh19 rfl
    refine V_goto 152 d_Mod_readLineOf_90 (by decide) ?_
    exact V_vret rfl d_Mod_readLineOf_152 ⟨rfl, ⟨hI20, f21, o9, o9Z, o9E, (kn_nei eh19 o9K (by decide)), o10, o10Z, o10E, (kn_nei eh19 o10K (by decide)), o11, o11Z, o11E, (kn_nei eh19 o11K (by decide)), o12, o12Z, o12E, (kn_nei eh19 o12K (by decide)), o13, o13Z, o13E, (kn_nei eh19 o13K (by decide)), o14, o14Z, o14E, (kn_nei eh19 o14K (by decide)), ⟨Or.inl ⟨by (first | decide +kernel | omega), (show x_l6 b T p0 = (x_cN b p0 1 9, x_fr b p0) from by unfold x_l6; rw [x_sq_y (c := x_cN b p0 1 9) (by (first | decide +kernel | omega))]).trans (pq (by (first | decide +kernel | omega)) (by (first | decide +kernel | omega)))⟩, by (first | decide +kernel | omega), by (first | decide +kernel | omega), by (first | decide +kernel | omega)⟩⟩⟩
  ·
    replace p6 := And.intro ((p6.1.resolve_left (fun q => by (first | decide +kernel | omega))).resolve_left (fun q => by (first | decide +kernel | omega))).2.1 (And.intro ((p6.1.resolve_left (fun q => by (first | decide +kernel | omega))).resolve_left (fun q => by (first | decide +kernel | omega))).2.2.1 (And.intro (((p6.1.resolve_left (fun q => by (first | decide +kernel | omega))).resolve_left (fun q => by (first | decide +kernel | omega))).2.2.2.resolve_right (fun q => by (first | decide +kernel | omega))) p6.2))
    have g22 := x_cN_0 p6.1
    have g23 := x_cS_4 (b := b) (p := (x_en b p0)) (by (first | decide +kernel | omega))
    refine N_putI fp_Mod_69 sk_116 rfl d_Mod_readLineOf_87 (fun h24 eh24 => ?_)
    have hI25 : Inv h24 := inv_full hI7 eh24 rfl
    have f26 : fr S_Mod_readLineOfX_1 h h24 := fr_put f8 eh24 rfl
    refine V_goto 152 d_Mod_readLineOf_90 (by decide) ?_
    exact V_vret rfl d_Mod_readLineOf_152 ⟨rfl, ⟨hI25, f26, o9, o9Z, o9E, (kn_nei eh24 o9K (by decide)), o10, o10Z, o10E, (kn_nei eh24 o10K (by decide)), o11, o11Z, o11E, (kn_nei eh24 o11K (by decide)), o12, o12Z, o12E, (kn_nei eh24 o12K (by decide)), o13, o13Z, o13E, (kn_nei eh24 o13K (by decide)), o14, o14Z, o14E, (kn_nei eh24 o14K (by decide)), ⟨Or.inl ⟨by (first | decide +kernel | omega), (show x_l6 b T p0 = (x_cS b (x_en b p0), x_fr b (x_en b p0)) from by unfold x_l6; rw [x_sq_n (c := x_cN b p0 1 9) (by (first | decide +kernel | omega)), x_sq_y (c := x_cS b (x_en b p0)) (by (first | decide +kernel | omega))]).trans (pq (by (first | decide +kernel | omega)) (by (first | decide +kernel | omega)))⟩, by (first | decide +kernel | omega), by (first | decide +kernel | omega), by (first | decide +kernel | omega)⟩⟩⟩
  ·
    replace p6 := And.intro ((p6.1.resolve_left (fun q => by (first | decide +kernel | omega))).resolve_left (fun q => by (first | decide +kernel | omega))).2.1 (And.intro ((p6.1.resolve_left (fun q => by (first | decide +kernel | omega))).resolve_left (fun q => by (first | decide +kernel | omega))).2.2.1 (And.intro (((p6.1.resolve_left (fun q => by (first | decide +kernel | omega))).resolve_left (fun q => by (first | decide +kernel | omega))).2.2.2.resolve_left (fun q => by (first | decide +kernel | omega))) p6.2))
    have g27 := x_cN_0 p6.1
    refine N_putI fp_Mod_69 sk_116 rfl d_Mod_readLineOf_87 (fun h28 eh28 => ?_)
    have hI29 : Inv h28 := inv_full hI7 eh28 rfl
    have f30 : fr S_Mod_readLineOfX_1 h h28 := fr_put f8 eh28 rfl
    have R31 : RM h28 T (x_up D 146 (x_vl b p0)) := RM_put R15 eh28 (Or.inr ⟨rfl, by decide, by decide, rfl⟩) (z4E.trans (by (first | decide +kernel | omega))) (by (first | decide +kernel | omega))
    refine V_goto 152 d_Mod_readLineOf_90 (by decide) ?_
    exact V_vret rfl d_Mod_readLineOf_152 ⟨rfl, ⟨hI29, f30, o9, o9Z, o9E, (kn_nei eh28 o9K (by decide)), o10, o10Z, o10E, (kn_nei eh28 o10K (by decide)), o11, o11Z, o11E, (kn_nei eh28 o11K (by decide)), o12, o12Z, o12E, (kn_nei eh28 o12K (by decide)), o13, o13Z, o13E, (kn_nei eh28 o13K (by decide)), o14, o14Z, o14E, (kn_nei eh28 o14K (by decide)), ⟨Or.inr ⟨by (first | decide +kernel | omega), by unfold x_l6; rw [x_sq_n (c := x_cN b p0 1 9) (by (first | decide +kernel | omega))], p6.2.2.1.2, R31⟩, by (first | decide +kernel | omega), by (first | decide +kernel | omega), by (first | decide +kernel | omega)⟩⟩⟩
def S_Mod_readLineOfX_2 : List (Nat × Option Nat) := [(116, some 16), (116, some 17), (116, some 18), (116, some 19), (116, some 20), (116, some 21), (116, some 10)]
abbrev q_Mod_readLineOfX_2 (h : Hp) (b : Int → Int) (T : Nat → Int → Int) (D : Nat → Int) (p0 : Int) (s : Int32) (sZ : Int) (p : Int32) (pZ : Int) (g : Int32) (gZ : Int) (k : Int32) (kZ : Int) (v : Int32) (vZ : Int) (w : Int32) (wZ : Int) (a : Int32) (aZ : Int) : Option Value → Hp → Prop := pVd (fun h' => Inv h' ∧ fr S_Mod_readLineOfX_2 h h' ∧ ∃ (q : Int32) (qZ : Int), q.toInt = qZ ∧ h'.1 116 16 = q ∧ ∃ (f : Int32) (fZ : Int), f.toInt = fZ ∧ h'.1 116 17 = f ∧ ∃ (m : Int32) (mZ : Int), m.toInt = mZ ∧ h'.1 116 18 = m ∧ ∃ (x : Int32) (xZ : Int), x.toInt = xZ ∧ h'.1 116 19 = x ∧ ∃ (u : Int32) (uZ : Int), u.toInt = uZ ∧ h'.1 116 20 = u ∧ ∃ (y : Int32) (yZ : Int), y.toInt = yZ ∧ h'.1 116 21 = y ∧ ((uZ ≠ 0 ∧ x_l7 b T p0 = (uZ, yZ) ∨ uZ = 0 ∧ x_l7 b T p0 = x_sq (x_cS b (x_en b p0)) (x_fr b (x_en b p0)) (0, x_en b (x_en b p0)) ∧ (fZ = x_fr b (x_en b p0) ∧ mZ = x_kd b (x_en b p0) ∧ mZ ≠ 4 ∧ 0 ≤ mZ ∧ mZ ≤ 3 ∧ qZ = x_en b (x_en b p0) ∧ (mZ ≠ 2 ∨ xZ = x_vl b (x_en b p0) ∧ 0 ≤ xZ ∧ xZ ≤ 99) ∧ (x_en b p0) ≤ fZ ∧ fZ ≤ qZ ∧ qZ ≤ sZ ∧ (mZ = 0 ∨ fZ < qZ)) ∧ RM h' T (x_up D 147 (x_vl b p0))) ∧ 0 ≤ qZ ∧ qZ ≤ sZ ∧ 0 ≤ uZ))
set_option maxRecDepth 100000 in
theorem c_Mod_readLineOfX_2 (h : Hp) (b : Int → Int) (T : Nat → Int → Int) (D : Nat → Int) (p0 : Int) (hI : Inv h) (s : Int32) (sZ : Int) (sE : s.toInt = sZ) (sK : h.1 116 15 = s) (p : Int32) (pZ : Int) (pE : p.toInt = pZ) (pK : h.1 116 16 = p) (g : Int32) (gZ : Int) (gE : g.toInt = gZ) (gK : h.1 116 17 = g) (k : Int32) (kZ : Int) (kE : k.toInt = kZ) (kK : h.1 116 18 = k) (v : Int32) (vZ : Int) (vE : v.toInt = vZ) (vK : h.1 116 19 = v) (w : Int32) (wZ : Int) (wE : w.toInt = wZ) (wK : h.1 116 20 = w) (a : Int32) (aZ : Int) (aE : a.toInt = aZ) (aK : h.1 116 21 = a) (hy0 : TP h 121 sZ b) (hy1 : 0 ≤ pZ ∧ pZ ≤ sZ ∧ wZ = 0) (hy2 : gZ = x_fr b p0 ∧ kZ = x_kd b p0 ∧ kZ ≠ 4 ∧ 0 ≤ kZ ∧ kZ ≤ 3 ∧ pZ = x_en b p0 ∧ (kZ ≠ 2 ∨ vZ = x_vl b p0 ∧ 0 ≤ vZ ∧ vZ ≤ 99) ∧ p0 ≤ gZ ∧ gZ ≤ pZ ∧ pZ ≤ sZ ∧ (kZ = 0 ∨ gZ < pZ)) (hy3 : RM h T D) : Ct y_Mod_readLineOf b_Mod_readLineOf 3 none 3 70 [.ref 116, .int 2] h (q_Mod_readLineOfX_2 h b T D p0 s sZ p pZ g gZ k kZ v vZ w wZ a aZ) := by
  refine ct_ow R_Mod [some (.ref 116), some (.int 2), none] rfl (by decide) rfl (Nat.le_of_ble_eq_true rfl) ?_
  have f0 : fr S_Mod_readLineOfX_2 h h := fr_rf
  have g1 : 0 ≤ sZ ∧ sZ ≤ 160 := inv_at hI sE sK.symm rfl
  have g2 : 0 ≤ pZ ∧ pZ ≤ 160 := inv_at hI pE pK.symm rfl
  have g3 : 0 ≤ gZ ∧ gZ ≤ 160 := inv_at hI gE gK.symm rfl
  refine V_iload_n 1 d_Mod_readLineOf_0 rfl rfl ?_
  refine V_tabIn 93 tc_2 d_Mod_readLineOf_1 (by decide) (by decide) rfl (by decide) ?_
  refine V_aload_n 0 d_Mod_readLineOf_93 rfl rfl ?_
  refine V_aload_n 0 d_Mod_readLineOf_94 rfl rfl ?_
  refine V_iconst 1 d_Mod_readLineOf_95 (by decide) ?_
  refine V_bipush 99 d_Mod_readLineOf_96 (by decide) ?_
  refine N_callVI [.int 1, .int 99] [.ref 116] cv_Mod_158 sk_116 rfl d_Mod_readLineOf_98 rfl (Nat.le_of_ble_eq_true rfl) (by decide) (by decide) (c_Mod_readNumberX h b p0 hI 1 1 tc_1 99 99 tc_99 s sZ sE sK p pZ pE pK g gZ gE gK k kZ kE kK v vZ vE vK w wZ wE wK a aZ aE aK (TP_fr f0 (fun _ => rfl) hy0) (by (first | decide +kernel | omega)) (Or.inr ⟨by (first | decide +kernel | omega), by (first | decide +kernel | omega), by (first | decide +kernel | omega), by (first | decide +kernel | omega), by (first | decide +kernel | omega), by (first | decide +kernel | omega), by (first | decide +kernel | omega), by (first | decide +kernel | omega), by (first | decide +kernel | omega), by (first | decide +kernel | omega), by (first | decide +kernel | omega)⟩)) (fun z4 h5 z4Z z4E p6 => ?_)
  obtain ⟨hI7, fh5, o9, o9Z, o9E, o9K, o10, o10Z, o10E, o10K, o11, o11Z, o11E, o11K, o12, o12Z, o12E, o12K, o13, o13Z, o13E, o13K, o14, o14Z, o14E, o14K, p6⟩ := p6
  have f8 : fr S_Mod_readLineOfX_2 h h5 := fr_call f0 fh5 rfl
  have R15 : RM h5 T D := RM_fr fh5 rfl hy3
  have g16 : 0 ≤ o9Z ∧ o9Z ≤ 160 := inv_at hI7 o9E o9K.symm rfl
  have g17 : 0 ≤ o10Z ∧ o10Z ≤ 160 := inv_at hI7 o10E o10K.symm rfl
  rcases (dj3 _ _ : o13Z ≠ 0 ∧ x_cN b p0 1 99 ≠ 0 ∨ o13Z ≠ 0 ∧ x_cN b p0 1 99 = 0 ∨ o13Z = 0) with c18 | c18 | c18
  ·
    replace p6 := And.intro ((p6.1.resolve_left (fun q => by (first | decide +kernel | omega))).resolve_right (fun q => by (first | decide +kernel | omega))) p6.2
    refine N_putI fp_Mod_72 sk_116 rfl d_Mod_readLineOf_101 (fun h19 eh19 => ?_)
    have hI20 : Inv h19 := inv_full hI7 eh19 rfl
    have f21 : fr S_Mod_readLineOfX_2 h h19 := fr_put f8 eh19 rfl
    refine V_goto 152 d_Mod_readLineOf_104 (by decide) ?_
    exact V_vret rfl d_Mod_readLineOf_152 ⟨rfl, ⟨hI20, f21, o9, o9Z, o9E, (kn_nei eh19 o9K (by decide)), o10, o10Z, o10E, (kn_nei eh19 o10K (by decide)), o11, o11Z, o11E, (kn_nei eh19 o11K (by decide)), o12, o12Z, o12E, (kn_nei eh19 o12K (by decide)), o13, o13Z, o13E, (kn_nei eh19 o13K (by decide)), o14, o14Z, o14E, (kn_nei eh19 o14K (by decide)), ⟨Or.inl ⟨by (first | decide +kernel | omega), (show x_l7 b T p0 = (x_cN b p0 1 99, x_fr b p0) from by unfold x_l7; rw [x_sq_y (c := x_cN b p0 1 99) (by (first | decide +kernel | omega))]).trans (pq (by (first | decide +kernel | omega)) (by (first | decide +kernel | omega)))⟩, by (first | decide +kernel | omega), by (first | decide +kernel | omega), by (first | decide +kernel | omega)⟩⟩⟩
  ·
    replace p6 := And.intro ((p6.1.resolve_left (fun q => by (first | decide +kernel | omega))).resolve_left (fun q => by (first | decide +kernel | omega))).2.1 (And.intro ((p6.1.resolve_left (fun q => by (first | decide +kernel | omega))).resolve_left (fun q => by (first | decide +kernel | omega))).2.2.1 (And.intro (((p6.1.resolve_left (fun q => by (first | decide +kernel | omega))).resolve_left (fun q => by (first | decide +kernel | omega))).2.2.2.resolve_right (fun q => by (first | decide +kernel | omega))) p6.2))
    have g22 := x_cN_0 p6.1
    have g23 := x_cS_4 (b := b) (p := (x_en b p0)) (by (first | decide +kernel | omega))
    refine N_putI fp_Mod_72 sk_116 rfl d_Mod_readLineOf_101 (fun h24 eh24 => ?_)
    have hI25 : Inv h24 := inv_full hI7 eh24 rfl
    have f26 : fr S_Mod_readLineOfX_2 h h24 := fr_put f8 eh24 rfl
    refine V_goto 152 d_Mod_readLineOf_104 (by decide) ?_
    exact V_vret rfl d_Mod_readLineOf_152 ⟨rfl, ⟨hI25, f26, o9, o9Z, o9E, (kn_nei eh24 o9K (by decide)), o10, o10Z, o10E, (kn_nei eh24 o10K (by decide)), o11, o11Z, o11E, (kn_nei eh24 o11K (by decide)), o12, o12Z, o12E, (kn_nei eh24 o12K (by decide)), o13, o13Z, o13E, (kn_nei eh24 o13K (by decide)), o14, o14Z, o14E, (kn_nei eh24 o14K (by decide)), ⟨Or.inl ⟨by (first | decide +kernel | omega), (show x_l7 b T p0 = (x_cS b (x_en b p0), x_fr b (x_en b p0)) from by unfold x_l7; rw [x_sq_n (c := x_cN b p0 1 99) (by (first | decide +kernel | omega)), x_sq_y (c := x_cS b (x_en b p0)) (by (first | decide +kernel | omega))]).trans (pq (by (first | decide +kernel | omega)) (by (first | decide +kernel | omega)))⟩, by (first | decide +kernel | omega), by (first | decide +kernel | omega), by (first | decide +kernel | omega)⟩⟩⟩
  ·
    replace p6 := And.intro ((p6.1.resolve_left (fun q => by (first | decide +kernel | omega))).resolve_left (fun q => by (first | decide +kernel | omega))).2.1 (And.intro ((p6.1.resolve_left (fun q => by (first | decide +kernel | omega))).resolve_left (fun q => by (first | decide +kernel | omega))).2.2.1 (And.intro (((p6.1.resolve_left (fun q => by (first | decide +kernel | omega))).resolve_left (fun q => by (first | decide +kernel | omega))).2.2.2.resolve_left (fun q => by (first | decide +kernel | omega))) p6.2))
    have g27 := x_cN_0 p6.1
    refine N_putI fp_Mod_72 sk_116 rfl d_Mod_readLineOf_101 (fun h28 eh28 => ?_)
    have hI29 : Inv h28 := inv_full hI7 eh28 rfl
    have f30 : fr S_Mod_readLineOfX_2 h h28 := fr_put f8 eh28 rfl
    have R31 : RM h28 T (x_up D 147 (x_vl b p0)) := RM_put R15 eh28 (Or.inr ⟨rfl, by decide, by decide, rfl⟩) (z4E.trans (by (first | decide +kernel | omega))) (by (first | decide +kernel | omega))
    refine V_goto 152 d_Mod_readLineOf_104 (by decide) ?_
    exact V_vret rfl d_Mod_readLineOf_152 ⟨rfl, ⟨hI29, f30, o9, o9Z, o9E, (kn_nei eh28 o9K (by decide)), o10, o10Z, o10E, (kn_nei eh28 o10K (by decide)), o11, o11Z, o11E, (kn_nei eh28 o11K (by decide)), o12, o12Z, o12E, (kn_nei eh28 o12K (by decide)), o13, o13Z, o13E, (kn_nei eh28 o13K (by decide)), o14, o14Z, o14E, (kn_nei eh28 o14K (by decide)), ⟨Or.inr ⟨by (first | decide +kernel | omega), by unfold x_l7; rw [x_sq_n (c := x_cN b p0 1 99) (by (first | decide +kernel | omega))], p6.2.2.1.2, R31⟩, by (first | decide +kernel | omega), by (first | decide +kernel | omega), by (first | decide +kernel | omega)⟩⟩⟩
def S_Mod_readLineOfX_3 : List (Nat × Option Nat) := [(116, some 16), (116, some 17), (116, some 18), (116, some 19), (116, some 20), (116, some 21), (119, none)]
abbrev q_Mod_readLineOfX_3 (h : Hp) (b : Int → Int) (T : Nat → Int → Int) (D : Nat → Int) (p0 : Int) (s : Int32) (sZ : Int) (p : Int32) (pZ : Int) (g : Int32) (gZ : Int) (k : Int32) (kZ : Int) (v : Int32) (vZ : Int) (w : Int32) (wZ : Int) (a : Int32) (aZ : Int) : Option Value → Hp → Prop := pVd (fun h' => Inv h' ∧ fr S_Mod_readLineOfX_3 h h' ∧ ∃ (q : Int32) (qZ : Int), q.toInt = qZ ∧ h'.1 116 16 = q ∧ ∃ (f : Int32) (fZ : Int), f.toInt = fZ ∧ h'.1 116 17 = f ∧ ∃ (m : Int32) (mZ : Int), m.toInt = mZ ∧ h'.1 116 18 = m ∧ ∃ (x : Int32) (xZ : Int), x.toInt = xZ ∧ h'.1 116 19 = x ∧ ∃ (u : Int32) (uZ : Int), u.toInt = uZ ∧ h'.1 116 20 = u ∧ ∃ (y : Int32) (yZ : Int), y.toInt = yZ ∧ h'.1 116 21 = y ∧ ((uZ ≠ 0 ∧ x_l8 b T p0 = (uZ, yZ) ∨ uZ = 0 ∧ x_l8 b T p0 = x_sq (x_cS b (x_en b (x_en b p0))) (x_fr b (x_en b (x_en b p0))) (0, x_en b (x_en b (x_en b p0))) ∧ (fZ = x_fr b (x_en b (x_en b p0)) ∧ mZ = x_kd b (x_en b (x_en b p0)) ∧ mZ ≠ 4 ∧ 0 ≤ mZ ∧ mZ ≤ 3 ∧ qZ = x_en b (x_en b (x_en b p0)) ∧ (mZ ≠ 2 ∨ xZ = x_vl b (x_en b (x_en b p0)) ∧ 0 ≤ xZ ∧ xZ ≤ 99) ∧ (x_en b (x_en b p0)) ≤ fZ ∧ fZ ≤ qZ ∧ qZ ≤ sZ ∧ (mZ = 0 ∨ fZ < qZ)) ∧ RM h' T (x_up (x_up D 84 (x_nn b p0)) 85 (x_vl b (x_en b p0)))) ∧ 0 ≤ qZ ∧ qZ ≤ sZ ∧ 0 ≤ uZ))
set_option maxRecDepth 100000 in
theorem c_Mod_readLineOfX_3 (h : Hp) (b : Int → Int) (T : Nat → Int → Int) (D : Nat → Int) (p0 : Int) (hI : Inv h) (s : Int32) (sZ : Int) (sE : s.toInt = sZ) (sK : h.1 116 15 = s) (p : Int32) (pZ : Int) (pE : p.toInt = pZ) (pK : h.1 116 16 = p) (g : Int32) (gZ : Int) (gE : g.toInt = gZ) (gK : h.1 116 17 = g) (k : Int32) (kZ : Int) (kE : k.toInt = kZ) (kK : h.1 116 18 = k) (v : Int32) (vZ : Int) (vE : v.toInt = vZ) (vK : h.1 116 19 = v) (w : Int32) (wZ : Int) (wE : w.toInt = wZ) (wK : h.1 116 20 = w) (a : Int32) (aZ : Int) (aE : a.toInt = aZ) (aK : h.1 116 21 = a) (hy0 : TP h 121 sZ b) (hy1 : 0 ≤ pZ ∧ pZ ≤ sZ ∧ wZ = 0) (hy2 : gZ = x_fr b p0 ∧ kZ = x_kd b p0 ∧ kZ ≠ 4 ∧ 0 ≤ kZ ∧ kZ ≤ 3 ∧ pZ = x_en b p0 ∧ (kZ ≠ 2 ∨ vZ = x_vl b p0 ∧ 0 ≤ vZ ∧ vZ ≤ 99) ∧ p0 ≤ gZ ∧ gZ ≤ pZ ∧ pZ ≤ sZ ∧ (kZ = 0 ∨ gZ < pZ)) (hy3 : RM h T D) : Ct y_Mod_readLineOf b_Mod_readLineOf 3 none 4 91 [.ref 116, .int 3] h (q_Mod_readLineOfX_3 h b T D p0 s sZ p pZ g gZ k kZ v vZ w wZ a aZ) := by
  refine ct_ow R_Mod [some (.ref 116), some (.int 3), none] rfl (by decide) rfl (Nat.le_of_ble_eq_true rfl) ?_
  have f0 : fr S_Mod_readLineOfX_3 h h := fr_rf
  have g1 : 0 ≤ sZ ∧ sZ ≤ 160 := inv_at hI sE sK.symm rfl
  have g2 : 0 ≤ pZ ∧ pZ ≤ 160 := inv_at hI pE pK.symm rfl
  have g3 : 0 ≤ gZ ∧ gZ ≤ 160 := inv_at hI gE gK.symm rfl
  refine V_iload_n 1 d_Mod_readLineOf_0 rfl rfl ?_
  refine V_tabIn 107 tc_3 d_Mod_readLineOf_1 (by decide) (by decide) rfl (by decide) ?_
  refine V_aload_n 0 d_Mod_readLineOf_107 rfl rfl ?_
  refine N_callVV [] [] cv_Mod_164 sk_116 rfl d_Mod_readLineOf_108 rfl (Nat.le_of_ble_eq_true rfl) (by decide) (by decide) (c_Mod_readRodX h b T D p0 hI s sZ sE sK p pZ pE pK g gZ gE gK k kZ kE kK v vZ vE vK w wZ wE wK a aZ aE aK (TP_fr f0 (fun _ => rfl) hy0) (by (first | decide +kernel | omega)) ⟨by (first | decide +kernel | omega), by (first | decide +kernel | omega), by (first | decide +kernel | omega), by (first | decide +kernel | omega), by (first | decide +kernel | omega), by (first | decide +kernel | omega), by (first | decide +kernel | omega), by (first | decide +kernel | omega), by (first | decide +kernel | omega), by (first | decide +kernel | omega), by (first | decide +kernel | omega)⟩ hy3) (fun h5 p6 => ?_)
  obtain ⟨hI7, fh5, o9, o9Z, o9E, o9K, o10, o10Z, o10E, o10K, o11, o11Z, o11E, o11K, o12, o12Z, o12E, o12K, o13, o13Z, o13E, o13K, o14, o14Z, o14E, o14K, p6⟩ := p6
  have f8 : fr S_Mod_readLineOfX_3 h h5 := fr_call f0 fh5 rfl
  have g15 : 0 ≤ o9Z ∧ o9Z ≤ 160 := inv_at hI7 o9E o9K.symm rfl
  have g16 : 0 ≤ o10Z ∧ o10Z ≤ 160 := inv_at hI7 o10E o10K.symm rfl
  refine V_goto 152 d_Mod_readLineOf_111 (by decide) ?_
  exact V_vret rfl d_Mod_readLineOf_152 ⟨rfl, ⟨hI7, f8, o9, o9Z, o9E, o9K, o10, o10Z, o10E, o10K, o11, o11Z, o11E, o11K, o12, o12Z, o12E, o12K, o13, o13Z, o13E, o13K, o14, o14Z, o14E, o14K, p6⟩⟩
def S_Mod_readLineOfX_4 : List (Nat × Option Nat) := [(116, some 16), (116, some 17), (116, some 18), (116, some 19), (116, some 20), (116, some 21), (119, none), (120, some 0), (116, some 13)]
abbrev q_Mod_readLineOfX_4 (h : Hp) (b : Int → Int) (T : Nat → Int → Int) (D : Nat → Int) (p0 : Int) (s : Int32) (sZ : Int) (p : Int32) (pZ : Int) (g : Int32) (gZ : Int) (k : Int32) (kZ : Int) (v : Int32) (vZ : Int) (w : Int32) (wZ : Int) (a : Int32) (aZ : Int) (z : Int32) (zZ : Int) (i : Int32) (iZ : Int) : Option Value → Hp → Prop := pVd (fun h' => Inv h' ∧ fr S_Mod_readLineOfX_4 h h' ∧ ∃ (q : Int32) (qZ : Int), q.toInt = qZ ∧ h'.1 116 16 = q ∧ ∃ (f : Int32) (fZ : Int), f.toInt = fZ ∧ h'.1 116 17 = f ∧ ∃ (m : Int32) (mZ : Int), m.toInt = mZ ∧ h'.1 116 18 = m ∧ ∃ (x : Int32) (xZ : Int), x.toInt = xZ ∧ h'.1 116 19 = x ∧ ∃ (u : Int32) (uZ : Int), u.toInt = uZ ∧ h'.1 116 20 = u ∧ ∃ (y : Int32) (yZ : Int), y.toInt = yZ ∧ h'.1 116 21 = y ∧ ((uZ ≠ 0 ∧ x_l1 b T p0 = (uZ, yZ) ∨ uZ = 0 ∧ x_l1 b T p0 = x_sq (x_cS b (x_en b (x_en b p0))) (x_fr b (x_en b (x_en b p0))) (0, x_en b (x_en b (x_en b p0))) ∧ (fZ = x_fr b (x_en b (x_en b p0)) ∧ mZ = x_kd b (x_en b (x_en b p0)) ∧ mZ ≠ 4 ∧ 0 ≤ mZ ∧ mZ ≤ 3 ∧ qZ = x_en b (x_en b (x_en b p0)) ∧ (mZ ≠ 2 ∨ xZ = x_vl b (x_en b (x_en b p0)) ∧ 0 ≤ xZ ∧ xZ ≤ 99) ∧ (x_en b (x_en b p0)) ≤ fZ ∧ fZ ≤ qZ ∧ qZ ≤ sZ ∧ (mZ = 0 ∨ fZ < qZ)) ∧ RM h' (x_upT T 1 (x_vl b p0)) (x_up D (x_vl b p0) (x_vl b (x_en b p0)))) ∧ 0 ≤ qZ ∧ qZ ≤ sZ ∧ 0 ≤ uZ))
set_option maxRecDepth 100000 in
theorem c_Mod_readLineOfX_4 (h : Hp) (b : Int → Int) (T : Nat → Int → Int) (D : Nat → Int) (p0 : Int) (hI : Inv h) (s : Int32) (sZ : Int) (sE : s.toInt = sZ) (sK : h.1 116 15 = s) (p : Int32) (pZ : Int) (pE : p.toInt = pZ) (pK : h.1 116 16 = p) (g : Int32) (gZ : Int) (gE : g.toInt = gZ) (gK : h.1 116 17 = g) (k : Int32) (kZ : Int) (kE : k.toInt = kZ) (kK : h.1 116 18 = k) (v : Int32) (vZ : Int) (vE : v.toInt = vZ) (vK : h.1 116 19 = v) (w : Int32) (wZ : Int) (wE : w.toInt = wZ) (wK : h.1 116 20 = w) (a : Int32) (aZ : Int) (aE : a.toInt = aZ) (aK : h.1 116 21 = a) (z : Int32) (zZ : Int) (zE : z.toInt = zZ) (zK : h.1 120 0 = z) (i : Int32) (iZ : Int) (iE : i.toInt = iZ) (iK : h.1 116 13 = i) (hy0 : TP h 121 sZ b) (hy1 : 0 ≤ pZ ∧ pZ ≤ sZ ∧ wZ = 0) (hy2 : gZ = x_fr b p0 ∧ kZ = x_kd b p0 ∧ kZ ≠ 4 ∧ 0 ≤ kZ ∧ kZ ≤ 3 ∧ pZ = x_en b p0 ∧ (kZ ≠ 2 ∨ vZ = x_vl b p0 ∧ 0 ≤ vZ ∧ vZ ≤ 99) ∧ p0 ≤ gZ ∧ gZ ≤ pZ ∧ pZ ≤ sZ ∧ (kZ = 0 ∨ gZ < pZ)) (hy3 : RM h T D) : Ct y_Mod_readLineOf b_Mod_readLineOf 3 none 4 94 [.ref 116, .int 4] h (q_Mod_readLineOfX_4 h b T D p0 s sZ p pZ g gZ k kZ v vZ w wZ a aZ z zZ i iZ) := by
  refine ct_ow R_Mod [some (.ref 116), some (.int 4), none] rfl (by decide) rfl (Nat.le_of_ble_eq_true rfl) ?_
  have f0 : fr S_Mod_readLineOfX_4 h h := fr_rf
  have g1 : 0 ≤ sZ ∧ sZ ≤ 160 := inv_at hI sE sK.symm rfl
  have g2 : 0 ≤ pZ ∧ pZ ≤ 160 := inv_at hI pE pK.symm rfl
  have g3 : 0 ≤ gZ ∧ gZ ≤ 160 := inv_at hI gE gK.symm rfl
  refine V_iload_n 1 d_Mod_readLineOf_0 rfl rfl ?_
  refine V_tabIn 147 tc_4 d_Mod_readLineOf_1 (by decide) (by decide) rfl (by decide) ?_
  refine V_aload_n 0 d_Mod_readLineOf_147 rfl rfl ?_
  refine V_iload_n 1 d_Mod_readLineOf_148 rfl rfl ?_
  refine N_callVV [.int 4] [] cv_Mod_170 sk_116 rfl d_Mod_readLineOf_149 rfl (Nat.le_of_ble_eq_true rfl) (by decide) (by decide) (c_Mod_readCellOfX_4 h b T D p0 hI s sZ sE sK p pZ pE pK g gZ gE gK k kZ kE kK v vZ vE vK w wZ wE wK a aZ aE aK z zZ zE zK i iZ iE iK (TP_fr f0 (fun _ => rfl) hy0) (by (first | decide +kernel | omega)) ⟨by (first | decide +kernel | omega), by (first | decide +kernel | omega), by (first | decide +kernel | omega), by (first | decide +kernel | omega), by (first | decide +kernel | omega), by (first | decide +kernel | omega), by (first | decide +kernel | omega), by (first | decide +kernel | omega), by (first | decide +kernel | omega), by (first | decide +kernel | omega), by (first | decide +kernel | omega)⟩ hy3) (fun h5 p6 => ?_)
  obtain ⟨hI7, fh5, o9, o9Z, o9E, o9K, o10, o10Z, o10E, o10K, o11, o11Z, o11E, o11K, o12, o12Z, o12E, o12K, o13, o13Z, o13E, o13K, o14, o14Z, o14E, o14K, p6⟩ := p6
  have f8 : fr S_Mod_readLineOfX_4 h h5 := fr_call f0 fh5 rfl
  have g15 : 0 ≤ o9Z ∧ o9Z ≤ 160 := inv_at hI7 o9E o9K.symm rfl
  have g16 : 0 ≤ o10Z ∧ o10Z ≤ 160 := inv_at hI7 o10E o10K.symm rfl
  exact V_vret rfl d_Mod_readLineOf_152 ⟨rfl, ⟨hI7, f8, o9, o9Z, o9E, o9K, o10, o10Z, o10E, o10K, o11, o11Z, o11E, o11K, o12, o12Z, o12E, o12K, o13, o13Z, o13E, o13K, o14, o14Z, o14E, o14K, p6⟩⟩
def S_Mod_readLineOfX_5 : List (Nat × Option Nat) := [(116, some 16), (116, some 17), (116, some 18), (116, some 19), (116, some 20), (116, some 21), (119, none), (120, some 1), (116, some 13)]
abbrev q_Mod_readLineOfX_5 (h : Hp) (b : Int → Int) (T : Nat → Int → Int) (D : Nat → Int) (p0 : Int) (s : Int32) (sZ : Int) (p : Int32) (pZ : Int) (g : Int32) (gZ : Int) (k : Int32) (kZ : Int) (v : Int32) (vZ : Int) (w : Int32) (wZ : Int) (a : Int32) (aZ : Int) (z : Int32) (zZ : Int) (i : Int32) (iZ : Int) : Option Value → Hp → Prop := pVd (fun h' => Inv h' ∧ fr S_Mod_readLineOfX_5 h h' ∧ ∃ (q : Int32) (qZ : Int), q.toInt = qZ ∧ h'.1 116 16 = q ∧ ∃ (f : Int32) (fZ : Int), f.toInt = fZ ∧ h'.1 116 17 = f ∧ ∃ (m : Int32) (mZ : Int), m.toInt = mZ ∧ h'.1 116 18 = m ∧ ∃ (x : Int32) (xZ : Int), x.toInt = xZ ∧ h'.1 116 19 = x ∧ ∃ (u : Int32) (uZ : Int), u.toInt = uZ ∧ h'.1 116 20 = u ∧ ∃ (y : Int32) (yZ : Int), y.toInt = yZ ∧ h'.1 116 21 = y ∧ ((uZ ≠ 0 ∧ x_l2 b T p0 = (uZ, yZ) ∨ uZ = 0 ∧ x_l2 b T p0 = x_sq (x_cS b (x_en b p0)) (x_fr b (x_en b p0)) (0, x_en b (x_en b p0)) ∧ (fZ = x_fr b (x_en b p0) ∧ mZ = x_kd b (x_en b p0) ∧ mZ ≠ 4 ∧ 0 ≤ mZ ∧ mZ ≤ 3 ∧ qZ = x_en b (x_en b p0) ∧ (mZ ≠ 2 ∨ xZ = x_vl b (x_en b p0) ∧ 0 ≤ xZ ∧ xZ ≤ 99) ∧ (x_en b p0) ≤ fZ ∧ fZ ≤ qZ ∧ qZ ≤ sZ ∧ (mZ = 0 ∨ fZ < qZ)) ∧ RM h' (x_upT T 2 (x_vl b p0)) (x_up D (16 + (x_vl b p0)) 1)) ∧ 0 ≤ qZ ∧ qZ ≤ sZ ∧ 0 ≤ uZ))
set_option maxRecDepth 100000 in
theorem c_Mod_readLineOfX_5 (h : Hp) (b : Int → Int) (T : Nat → Int → Int) (D : Nat → Int) (p0 : Int) (hI : Inv h) (s : Int32) (sZ : Int) (sE : s.toInt = sZ) (sK : h.1 116 15 = s) (p : Int32) (pZ : Int) (pE : p.toInt = pZ) (pK : h.1 116 16 = p) (g : Int32) (gZ : Int) (gE : g.toInt = gZ) (gK : h.1 116 17 = g) (k : Int32) (kZ : Int) (kE : k.toInt = kZ) (kK : h.1 116 18 = k) (v : Int32) (vZ : Int) (vE : v.toInt = vZ) (vK : h.1 116 19 = v) (w : Int32) (wZ : Int) (wE : w.toInt = wZ) (wK : h.1 116 20 = w) (a : Int32) (aZ : Int) (aE : a.toInt = aZ) (aK : h.1 116 21 = a) (z : Int32) (zZ : Int) (zE : z.toInt = zZ) (zK : h.1 120 1 = z) (i : Int32) (iZ : Int) (iE : i.toInt = iZ) (iK : h.1 116 13 = i) (hy0 : TP h 121 sZ b) (hy1 : 0 ≤ pZ ∧ pZ ≤ sZ ∧ wZ = 0) (hy2 : gZ = x_fr b p0 ∧ kZ = x_kd b p0 ∧ kZ ≠ 4 ∧ 0 ≤ kZ ∧ kZ ≤ 3 ∧ pZ = x_en b p0 ∧ (kZ ≠ 2 ∨ vZ = x_vl b p0 ∧ 0 ≤ vZ ∧ vZ ≤ 99) ∧ p0 ≤ gZ ∧ gZ ≤ pZ ∧ pZ ≤ sZ ∧ (kZ = 0 ∨ gZ < pZ)) (hy3 : RM h T D) : Ct y_Mod_readLineOf b_Mod_readLineOf 3 none 4 94 [.ref 116, .int 5] h (q_Mod_readLineOfX_5 h b T D p0 s sZ p pZ g gZ k kZ v vZ w wZ a aZ z zZ i iZ) := by
  refine ct_ow R_Mod [some (.ref 116), some (.int 5), none] rfl (by decide) rfl (Nat.le_of_ble_eq_true rfl) ?_
  have f0 : fr S_Mod_readLineOfX_5 h h := fr_rf
  have g1 : 0 ≤ sZ ∧ sZ ≤ 160 := inv_at hI sE sK.symm rfl
  have g2 : 0 ≤ pZ ∧ pZ ≤ 160 := inv_at hI pE pK.symm rfl
  have g3 : 0 ≤ gZ ∧ gZ ≤ 160 := inv_at hI gE gK.symm rfl
  refine V_iload_n 1 d_Mod_readLineOf_0 rfl rfl ?_
  refine V_tabIn 147 tc_5 d_Mod_readLineOf_1 (by decide) (by decide) rfl (by decide) ?_
  refine V_aload_n 0 d_Mod_readLineOf_147 rfl rfl ?_
  refine V_iload_n 1 d_Mod_readLineOf_148 rfl rfl ?_
  refine N_callVV [.int 5] [] cv_Mod_170 sk_116 rfl d_Mod_readLineOf_149 rfl (Nat.le_of_ble_eq_true rfl) (by decide) (by decide) (c_Mod_readCellOfX_5 h b T D p0 hI s sZ sE sK p pZ pE pK g gZ gE gK k kZ kE kK v vZ vE vK w wZ wE wK a aZ aE aK z zZ zE zK i iZ iE iK (TP_fr f0 (fun _ => rfl) hy0) (by (first | decide +kernel | omega)) ⟨by (first | decide +kernel | omega), by (first | decide +kernel | omega), by (first | decide +kernel | omega), by (first | decide +kernel | omega), by (first | decide +kernel | omega), by (first | decide +kernel | omega), by (first | decide +kernel | omega), by (first | decide +kernel | omega), by (first | decide +kernel | omega), by (first | decide +kernel | omega), by (first | decide +kernel | omega)⟩ hy3) (fun h5 p6 => ?_)
  obtain ⟨hI7, fh5, o9, o9Z, o9E, o9K, o10, o10Z, o10E, o10K, o11, o11Z, o11E, o11K, o12, o12Z, o12E, o12K, o13, o13Z, o13E, o13K, o14, o14Z, o14E, o14K, p6⟩ := p6
  have f8 : fr S_Mod_readLineOfX_5 h h5 := fr_call f0 fh5 rfl
  have g15 : 0 ≤ o9Z ∧ o9Z ≤ 160 := inv_at hI7 o9E o9K.symm rfl
  have g16 : 0 ≤ o10Z ∧ o10Z ≤ 160 := inv_at hI7 o10E o10K.symm rfl
  exact V_vret rfl d_Mod_readLineOf_152 ⟨rfl, ⟨hI7, f8, o9, o9Z, o9E, o9K, o10, o10Z, o10E, o10K, o11, o11Z, o11E, o11K, o12, o12Z, o12E, o12K, o13, o13Z, o13E, o13K, o14, o14Z, o14E, o14K, p6⟩⟩
def S_Mod_readLineOfX_6 : List (Nat × Option Nat) := [(116, some 16), (116, some 17), (116, some 18), (116, some 19), (116, some 20), (116, some 21), (119, none), (120, some 2), (116, some 13)]
abbrev q_Mod_readLineOfX_6 (h : Hp) (b : Int → Int) (T : Nat → Int → Int) (D : Nat → Int) (p0 : Int) (s : Int32) (sZ : Int) (p : Int32) (pZ : Int) (g : Int32) (gZ : Int) (k : Int32) (kZ : Int) (v : Int32) (vZ : Int) (w : Int32) (wZ : Int) (a : Int32) (aZ : Int) (z : Int32) (zZ : Int) (i : Int32) (iZ : Int) : Option Value → Hp → Prop := pVd (fun h' => Inv h' ∧ fr S_Mod_readLineOfX_6 h h' ∧ ∃ (q : Int32) (qZ : Int), q.toInt = qZ ∧ h'.1 116 16 = q ∧ ∃ (f : Int32) (fZ : Int), f.toInt = fZ ∧ h'.1 116 17 = f ∧ ∃ (m : Int32) (mZ : Int), m.toInt = mZ ∧ h'.1 116 18 = m ∧ ∃ (x : Int32) (xZ : Int), x.toInt = xZ ∧ h'.1 116 19 = x ∧ ∃ (u : Int32) (uZ : Int), u.toInt = uZ ∧ h'.1 116 20 = u ∧ ∃ (y : Int32) (yZ : Int), y.toInt = yZ ∧ h'.1 116 21 = y ∧ ((uZ ≠ 0 ∧ x_l3 b T p0 = (uZ, yZ) ∨ uZ = 0 ∧ x_l3 b T p0 = x_sq (x_cS b (x_en b (x_en b p0))) (x_fr b (x_en b (x_en b p0))) (0, x_en b (x_en b (x_en b p0))) ∧ (fZ = x_fr b (x_en b (x_en b p0)) ∧ mZ = x_kd b (x_en b (x_en b p0)) ∧ mZ ≠ 4 ∧ 0 ≤ mZ ∧ mZ ≤ 3 ∧ qZ = x_en b (x_en b (x_en b p0)) ∧ (mZ ≠ 2 ∨ xZ = x_vl b (x_en b (x_en b p0)) ∧ 0 ≤ xZ ∧ xZ ≤ 99) ∧ (x_en b (x_en b p0)) ≤ fZ ∧ fZ ≤ qZ ∧ qZ ≤ sZ ∧ (mZ = 0 ∨ fZ < qZ)) ∧ RM h' (x_upT T 3 (x_vl b p0)) (x_up D (32 + (x_vl b p0)) (x_vl b (x_en b p0)))) ∧ 0 ≤ qZ ∧ qZ ≤ sZ ∧ 0 ≤ uZ))
set_option maxRecDepth 100000 in
theorem c_Mod_readLineOfX_6 (h : Hp) (b : Int → Int) (T : Nat → Int → Int) (D : Nat → Int) (p0 : Int) (hI : Inv h) (s : Int32) (sZ : Int) (sE : s.toInt = sZ) (sK : h.1 116 15 = s) (p : Int32) (pZ : Int) (pE : p.toInt = pZ) (pK : h.1 116 16 = p) (g : Int32) (gZ : Int) (gE : g.toInt = gZ) (gK : h.1 116 17 = g) (k : Int32) (kZ : Int) (kE : k.toInt = kZ) (kK : h.1 116 18 = k) (v : Int32) (vZ : Int) (vE : v.toInt = vZ) (vK : h.1 116 19 = v) (w : Int32) (wZ : Int) (wE : w.toInt = wZ) (wK : h.1 116 20 = w) (a : Int32) (aZ : Int) (aE : a.toInt = aZ) (aK : h.1 116 21 = a) (z : Int32) (zZ : Int) (zE : z.toInt = zZ) (zK : h.1 120 2 = z) (i : Int32) (iZ : Int) (iE : i.toInt = iZ) (iK : h.1 116 13 = i) (hy0 : TP h 121 sZ b) (hy1 : 0 ≤ pZ ∧ pZ ≤ sZ ∧ wZ = 0) (hy2 : gZ = x_fr b p0 ∧ kZ = x_kd b p0 ∧ kZ ≠ 4 ∧ 0 ≤ kZ ∧ kZ ≤ 3 ∧ pZ = x_en b p0 ∧ (kZ ≠ 2 ∨ vZ = x_vl b p0 ∧ 0 ≤ vZ ∧ vZ ≤ 99) ∧ p0 ≤ gZ ∧ gZ ≤ pZ ∧ pZ ≤ sZ ∧ (kZ = 0 ∨ gZ < pZ)) (hy3 : RM h T D) : Ct y_Mod_readLineOf b_Mod_readLineOf 3 none 4 94 [.ref 116, .int 6] h (q_Mod_readLineOfX_6 h b T D p0 s sZ p pZ g gZ k kZ v vZ w wZ a aZ z zZ i iZ) := by
  refine ct_ow R_Mod [some (.ref 116), some (.int 6), none] rfl (by decide) rfl (Nat.le_of_ble_eq_true rfl) ?_
  have f0 : fr S_Mod_readLineOfX_6 h h := fr_rf
  have g1 : 0 ≤ sZ ∧ sZ ≤ 160 := inv_at hI sE sK.symm rfl
  have g2 : 0 ≤ pZ ∧ pZ ≤ 160 := inv_at hI pE pK.symm rfl
  have g3 : 0 ≤ gZ ∧ gZ ≤ 160 := inv_at hI gE gK.symm rfl
  refine V_iload_n 1 d_Mod_readLineOf_0 rfl rfl ?_
  refine V_tabIn 147 tc_6 d_Mod_readLineOf_1 (by decide) (by decide) rfl (by decide) ?_
  refine V_aload_n 0 d_Mod_readLineOf_147 rfl rfl ?_
  refine V_iload_n 1 d_Mod_readLineOf_148 rfl rfl ?_
  refine N_callVV [.int 6] [] cv_Mod_170 sk_116 rfl d_Mod_readLineOf_149 rfl (Nat.le_of_ble_eq_true rfl) (by decide) (by decide) (c_Mod_readCellOfX_6 h b T D p0 hI s sZ sE sK p pZ pE pK g gZ gE gK k kZ kE kK v vZ vE vK w wZ wE wK a aZ aE aK z zZ zE zK i iZ iE iK (TP_fr f0 (fun _ => rfl) hy0) (by (first | decide +kernel | omega)) ⟨by (first | decide +kernel | omega), by (first | decide +kernel | omega), by (first | decide +kernel | omega), by (first | decide +kernel | omega), by (first | decide +kernel | omega), by (first | decide +kernel | omega), by (first | decide +kernel | omega), by (first | decide +kernel | omega), by (first | decide +kernel | omega), by (first | decide +kernel | omega), by (first | decide +kernel | omega)⟩ hy3) (fun h5 p6 => ?_)
  obtain ⟨hI7, fh5, o9, o9Z, o9E, o9K, o10, o10Z, o10E, o10K, o11, o11Z, o11E, o11K, o12, o12Z, o12E, o12K, o13, o13Z, o13E, o13K, o14, o14Z, o14E, o14K, p6⟩ := p6
  have f8 : fr S_Mod_readLineOfX_6 h h5 := fr_call f0 fh5 rfl
  have g15 : 0 ≤ o9Z ∧ o9Z ≤ 160 := inv_at hI7 o9E o9K.symm rfl
  have g16 : 0 ≤ o10Z ∧ o10Z ≤ 160 := inv_at hI7 o10E o10K.symm rfl
  exact V_vret rfl d_Mod_readLineOf_152 ⟨rfl, ⟨hI7, f8, o9, o9Z, o9E, o9K, o10, o10Z, o10E, o10K, o11, o11Z, o11E, o11K, o12, o12Z, o12E, o12K, o13, o13Z, o13E, o13K, o14, o14Z, o14E, o14K, p6⟩⟩
def S_Mod_readLineOfX_7 : List (Nat × Option Nat) := [(116, some 16), (116, some 17), (116, some 18), (116, some 19), (116, some 20), (116, some 21), (119, none), (120, some 3), (116, some 13)]
abbrev q_Mod_readLineOfX_7 (h : Hp) (b : Int → Int) (T : Nat → Int → Int) (D : Nat → Int) (p0 : Int) (s : Int32) (sZ : Int) (p : Int32) (pZ : Int) (g : Int32) (gZ : Int) (k : Int32) (kZ : Int) (v : Int32) (vZ : Int) (w : Int32) (wZ : Int) (a : Int32) (aZ : Int) (z : Int32) (zZ : Int) (i : Int32) (iZ : Int) : Option Value → Hp → Prop := pVd (fun h' => Inv h' ∧ fr S_Mod_readLineOfX_7 h h' ∧ ∃ (q : Int32) (qZ : Int), q.toInt = qZ ∧ h'.1 116 16 = q ∧ ∃ (f : Int32) (fZ : Int), f.toInt = fZ ∧ h'.1 116 17 = f ∧ ∃ (m : Int32) (mZ : Int), m.toInt = mZ ∧ h'.1 116 18 = m ∧ ∃ (x : Int32) (xZ : Int), x.toInt = xZ ∧ h'.1 116 19 = x ∧ ∃ (u : Int32) (uZ : Int), u.toInt = uZ ∧ h'.1 116 20 = u ∧ ∃ (y : Int32) (yZ : Int), y.toInt = yZ ∧ h'.1 116 21 = y ∧ ((uZ ≠ 0 ∧ x_l4 b T p0 = (uZ, yZ) ∨ uZ = 0 ∧ x_l4 b T p0 = x_sq (x_cS b (x_en b (x_en b p0))) (x_fr b (x_en b (x_en b p0))) (0, x_en b (x_en b (x_en b p0))) ∧ (fZ = x_fr b (x_en b (x_en b p0)) ∧ mZ = x_kd b (x_en b (x_en b p0)) ∧ mZ ≠ 4 ∧ 0 ≤ mZ ∧ mZ ≤ 3 ∧ qZ = x_en b (x_en b (x_en b p0)) ∧ (mZ ≠ 2 ∨ xZ = x_vl b (x_en b (x_en b p0)) ∧ 0 ≤ xZ ∧ xZ ≤ 99) ∧ (x_en b (x_en b p0)) ≤ fZ ∧ fZ ≤ qZ ∧ qZ ≤ sZ ∧ (mZ = 0 ∨ fZ < qZ)) ∧ RM h' (x_upT T 4 (x_vl b p0)) (x_up D (48 + (x_vl b p0)) (x_vl b (x_en b p0)))) ∧ 0 ≤ qZ ∧ qZ ≤ sZ ∧ 0 ≤ uZ))
set_option maxRecDepth 100000 in
theorem c_Mod_readLineOfX_7 (h : Hp) (b : Int → Int) (T : Nat → Int → Int) (D : Nat → Int) (p0 : Int) (hI : Inv h) (s : Int32) (sZ : Int) (sE : s.toInt = sZ) (sK : h.1 116 15 = s) (p : Int32) (pZ : Int) (pE : p.toInt = pZ) (pK : h.1 116 16 = p) (g : Int32) (gZ : Int) (gE : g.toInt = gZ) (gK : h.1 116 17 = g) (k : Int32) (kZ : Int) (kE : k.toInt = kZ) (kK : h.1 116 18 = k) (v : Int32) (vZ : Int) (vE : v.toInt = vZ) (vK : h.1 116 19 = v) (w : Int32) (wZ : Int) (wE : w.toInt = wZ) (wK : h.1 116 20 = w) (a : Int32) (aZ : Int) (aE : a.toInt = aZ) (aK : h.1 116 21 = a) (z : Int32) (zZ : Int) (zE : z.toInt = zZ) (zK : h.1 120 3 = z) (i : Int32) (iZ : Int) (iE : i.toInt = iZ) (iK : h.1 116 13 = i) (hy0 : TP h 121 sZ b) (hy1 : 0 ≤ pZ ∧ pZ ≤ sZ ∧ wZ = 0) (hy2 : gZ = x_fr b p0 ∧ kZ = x_kd b p0 ∧ kZ ≠ 4 ∧ 0 ≤ kZ ∧ kZ ≤ 3 ∧ pZ = x_en b p0 ∧ (kZ ≠ 2 ∨ vZ = x_vl b p0 ∧ 0 ≤ vZ ∧ vZ ≤ 99) ∧ p0 ≤ gZ ∧ gZ ≤ pZ ∧ pZ ≤ sZ ∧ (kZ = 0 ∨ gZ < pZ)) (hy3 : RM h T D) : Ct y_Mod_readLineOf b_Mod_readLineOf 3 none 4 94 [.ref 116, .int 7] h (q_Mod_readLineOfX_7 h b T D p0 s sZ p pZ g gZ k kZ v vZ w wZ a aZ z zZ i iZ) := by
  refine ct_ow R_Mod [some (.ref 116), some (.int 7), none] rfl (by decide) rfl (Nat.le_of_ble_eq_true rfl) ?_
  have f0 : fr S_Mod_readLineOfX_7 h h := fr_rf
  have g1 : 0 ≤ sZ ∧ sZ ≤ 160 := inv_at hI sE sK.symm rfl
  have g2 : 0 ≤ pZ ∧ pZ ≤ 160 := inv_at hI pE pK.symm rfl
  have g3 : 0 ≤ gZ ∧ gZ ≤ 160 := inv_at hI gE gK.symm rfl
  refine V_iload_n 1 d_Mod_readLineOf_0 rfl rfl ?_
  refine V_tabIn 147 tc_7 d_Mod_readLineOf_1 (by decide) (by decide) rfl (by decide) ?_
  refine V_aload_n 0 d_Mod_readLineOf_147 rfl rfl ?_
  refine V_iload_n 1 d_Mod_readLineOf_148 rfl rfl ?_
  refine N_callVV [.int 7] [] cv_Mod_170 sk_116 rfl d_Mod_readLineOf_149 rfl (Nat.le_of_ble_eq_true rfl) (by decide) (by decide) (c_Mod_readCellOfX_7 h b T D p0 hI s sZ sE sK p pZ pE pK g gZ gE gK k kZ kE kK v vZ vE vK w wZ wE wK a aZ aE aK z zZ zE zK i iZ iE iK (TP_fr f0 (fun _ => rfl) hy0) (by (first | decide +kernel | omega)) ⟨by (first | decide +kernel | omega), by (first | decide +kernel | omega), by (first | decide +kernel | omega), by (first | decide +kernel | omega), by (first | decide +kernel | omega), by (first | decide +kernel | omega), by (first | decide +kernel | omega), by (first | decide +kernel | omega), by (first | decide +kernel | omega), by (first | decide +kernel | omega), by (first | decide +kernel | omega)⟩ hy3) (fun h5 p6 => ?_)
  obtain ⟨hI7, fh5, o9, o9Z, o9E, o9K, o10, o10Z, o10E, o10K, o11, o11Z, o11E, o11K, o12, o12Z, o12E, o12K, o13, o13Z, o13E, o13K, o14, o14Z, o14E, o14K, p6⟩ := p6
  have f8 : fr S_Mod_readLineOfX_7 h h5 := fr_call f0 fh5 rfl
  have g15 : 0 ≤ o9Z ∧ o9Z ≤ 160 := inv_at hI7 o9E o9K.symm rfl
  have g16 : 0 ≤ o10Z ∧ o10Z ≤ 160 := inv_at hI7 o10E o10K.symm rfl
  exact V_vret rfl d_Mod_readLineOf_152 ⟨rfl, ⟨hI7, f8, o9, o9Z, o9E, o9K, o10, o10Z, o10E, o10K, o11, o11Z, o11E, o11K, o12, o12Z, o12E, o12K, o13, o13Z, o13E, o13K, o14, o14Z, o14E, o14K, p6⟩⟩
def S_Mod_readLineOfX_8 : List (Nat × Option Nat) := [(116, some 16), (116, some 17), (116, some 18), (116, some 19), (116, some 20), (116, some 21), (119, none), (120, some 4), (116, some 13)]
abbrev q_Mod_readLineOfX_8 (h : Hp) (b : Int → Int) (T : Nat → Int → Int) (D : Nat → Int) (p0 : Int) (s : Int32) (sZ : Int) (p : Int32) (pZ : Int) (g : Int32) (gZ : Int) (k : Int32) (kZ : Int) (v : Int32) (vZ : Int) (w : Int32) (wZ : Int) (a : Int32) (aZ : Int) (z : Int32) (zZ : Int) (i : Int32) (iZ : Int) : Option Value → Hp → Prop := pVd (fun h' => Inv h' ∧ fr S_Mod_readLineOfX_8 h h' ∧ ∃ (q : Int32) (qZ : Int), q.toInt = qZ ∧ h'.1 116 16 = q ∧ ∃ (f : Int32) (fZ : Int), f.toInt = fZ ∧ h'.1 116 17 = f ∧ ∃ (m : Int32) (mZ : Int), m.toInt = mZ ∧ h'.1 116 18 = m ∧ ∃ (x : Int32) (xZ : Int), x.toInt = xZ ∧ h'.1 116 19 = x ∧ ∃ (u : Int32) (uZ : Int), u.toInt = uZ ∧ h'.1 116 20 = u ∧ ∃ (y : Int32) (yZ : Int), y.toInt = yZ ∧ h'.1 116 21 = y ∧ ((uZ ≠ 0 ∧ x_l5 b T p0 = (uZ, yZ) ∨ uZ = 0 ∧ x_l5 b T p0 = x_sq (x_cS b (x_en b (x_en b p0))) (x_fr b (x_en b (x_en b p0))) (0, x_en b (x_en b (x_en b p0))) ∧ (fZ = x_fr b (x_en b (x_en b p0)) ∧ mZ = x_kd b (x_en b (x_en b p0)) ∧ mZ ≠ 4 ∧ 0 ≤ mZ ∧ mZ ≤ 3 ∧ qZ = x_en b (x_en b (x_en b p0)) ∧ (mZ ≠ 2 ∨ xZ = x_vl b (x_en b (x_en b p0)) ∧ 0 ≤ xZ ∧ xZ ≤ 99) ∧ (x_en b (x_en b p0)) ≤ fZ ∧ fZ ≤ qZ ∧ qZ ≤ sZ ∧ (mZ = 0 ∨ fZ < qZ)) ∧ RM h' (x_upT T 5 (x_vl b p0)) (x_up D (80 + (x_vl b p0)) (x_vl b (x_en b p0)))) ∧ 0 ≤ qZ ∧ qZ ≤ sZ ∧ 0 ≤ uZ))
set_option maxRecDepth 100000 in
theorem c_Mod_readLineOfX_8 (h : Hp) (b : Int → Int) (T : Nat → Int → Int) (D : Nat → Int) (p0 : Int) (hI : Inv h) (s : Int32) (sZ : Int) (sE : s.toInt = sZ) (sK : h.1 116 15 = s) (p : Int32) (pZ : Int) (pE : p.toInt = pZ) (pK : h.1 116 16 = p) (g : Int32) (gZ : Int) (gE : g.toInt = gZ) (gK : h.1 116 17 = g) (k : Int32) (kZ : Int) (kE : k.toInt = kZ) (kK : h.1 116 18 = k) (v : Int32) (vZ : Int) (vE : v.toInt = vZ) (vK : h.1 116 19 = v) (w : Int32) (wZ : Int) (wE : w.toInt = wZ) (wK : h.1 116 20 = w) (a : Int32) (aZ : Int) (aE : a.toInt = aZ) (aK : h.1 116 21 = a) (z : Int32) (zZ : Int) (zE : z.toInt = zZ) (zK : h.1 120 4 = z) (i : Int32) (iZ : Int) (iE : i.toInt = iZ) (iK : h.1 116 13 = i) (hy0 : TP h 121 sZ b) (hy1 : 0 ≤ pZ ∧ pZ ≤ sZ ∧ wZ = 0) (hy2 : gZ = x_fr b p0 ∧ kZ = x_kd b p0 ∧ kZ ≠ 4 ∧ 0 ≤ kZ ∧ kZ ≤ 3 ∧ pZ = x_en b p0 ∧ (kZ ≠ 2 ∨ vZ = x_vl b p0 ∧ 0 ≤ vZ ∧ vZ ≤ 99) ∧ p0 ≤ gZ ∧ gZ ≤ pZ ∧ pZ ≤ sZ ∧ (kZ = 0 ∨ gZ < pZ)) (hy3 : RM h T D) : Ct y_Mod_readLineOf b_Mod_readLineOf 3 none 3 70 [.ref 116, .int 8] h (q_Mod_readLineOfX_8 h b T D p0 s sZ p pZ g gZ k kZ v vZ w wZ a aZ z zZ i iZ) := by
  refine ct_ow R_Mod [some (.ref 116), some (.int 8), none] rfl (by decide) rfl (Nat.le_of_ble_eq_true rfl) ?_
  have f0 : fr S_Mod_readLineOfX_8 h h := fr_rf
  have g1 : 0 ≤ sZ ∧ sZ ≤ 160 := inv_at hI sE sK.symm rfl
  have g2 : 0 ≤ pZ ∧ pZ ≤ 160 := inv_at hI pE pK.symm rfl
  have g3 : 0 ≤ gZ ∧ gZ ≤ 160 := inv_at hI gE gK.symm rfl
  refine V_iload_n 1 d_Mod_readLineOf_0 rfl rfl ?_
  refine V_tabIn 114 tc_8 d_Mod_readLineOf_1 (by decide) (by decide) rfl (by decide) ?_
  refine V_aload_n 0 d_Mod_readLineOf_114 rfl rfl ?_
  refine V_iload_n 1 d_Mod_readLineOf_115 rfl rfl ?_
  refine V_iconst 3 d_Mod_readLineOf_116 (by decide) ?_
  refine N_callVI [.int 8, .int 3] [] cv_Mod_161 sk_116 rfl d_Mod_readLineOf_117 rfl (Nat.le_of_ble_eq_true rfl) (by decide) (by decide) (c_Mod_readFreshX_8 h b T D p0 hI s sZ sE sK p pZ pE pK g gZ gE gK k kZ kE kK v vZ vE vK w wZ wE wK a aZ aE aK z zZ zE zK i iZ iE iK (TP_fr f0 (fun _ => rfl) hy0) (by (first | decide +kernel | omega)) ⟨by (first | decide +kernel | omega), by (first | decide +kernel | omega), by (first | decide +kernel | omega), by (first | decide +kernel | omega), by (first | decide +kernel | omega), by (first | decide +kernel | omega), by (first | decide +kernel | omega), by (first | decide +kernel | omega), by (first | decide +kernel | omega), by (first | decide +kernel | omega), by (first | decide +kernel | omega)⟩ hy3) (fun z4 h5 z4Z z4E p6 => ?_)
  obtain ⟨hI7, fh5, o9, o9Z, o9E, o9K, o10, o10Z, o10E, o10K, o11, o11Z, o11E, o11K, o12, o12Z, o12E, o12K, o13, o13Z, o13E, o13K, o14, o14Z, o14E, o14K, p6⟩ := p6
  have f8 : fr S_Mod_readLineOfX_8 h h5 := fr_call f0 fh5 rfl
  have g15 : 0 ≤ o9Z ∧ o9Z ≤ 160 := inv_at hI7 o9E o9K.symm rfl
  have g16 : 0 ≤ o10Z ∧ o10Z ≤ 160 := inv_at hI7 o10E o10K.symm rfl
  refine V_istore_n 2 [some (.ref 116), some (.int 8), some (.int z4)] d_Mod_readLineOf_120 rfl (by decide) rfl rfl ?_
  rcases (dj4 _ _ _ : o13Z ≠ 0 ∧ x_cN b p0 0 3 ≠ 0 ∨ o13Z ≠ 0 ∧ x_cN b p0 0 3 = 0 ∧ x_c4 (T 5 (x_vl b p0)) ≠ 0 ∨ o13Z ≠ 0 ∧ x_cN b p0 0 3 = 0 ∧ x_c4 (T 5 (x_vl b p0)) = 0 ∨ o13Z = 0) with c17 | c17 | c17 | c17
  ·
    replace p6 := And.intro (p6.1.resolve_right (fun q => by (first | decide +kernel | omega))) p6.2
    have g18 := x_cN_s b p0 0 3
    refine V_aload_n 0 d_Mod_readLineOf_121 rfl rfl ?_
    refine V_getR fa_Mod_17 sk_116 rfl d_Mod_readLineOf_122 ?_
    refine V_bipush 80 d_Mod_readLineOf_125 (by decide) ?_
    refine V_iload_n 2 d_Mod_readLineOf_127 rfl rfl ?_
    refine V_iadd tc_80 z4E (by (first | decide +kernel | omega)) d_Mod_readLineOf_128 (fun z19 z19e z19E => ?_)
    refine V_aload_n 0 d_Mod_readLineOf_129 rfl rfl ?_
    refine V_iconst 0 d_Mod_readLineOf_130 (by decide) ?_
    refine V_bipush 99 d_Mod_readLineOf_131 (by decide) ?_
    refine N_callVI [.int 0, .int 99] [.int z19, .ref 119] cv_Mod_158 sk_116 rfl d_Mod_readLineOf_133 rfl (Nat.le_of_ble_eq_true rfl) (by decide) (by decide) (c_Mod_readNumberX h5 b (x_en b p0) hI7 0 0 tc_0 99 99 tc_99 s sZ sE (kn_call fh5 sK rfl) o9 o9Z o9E o9K o10 o10Z o10E o10K o11 o11Z o11E o11K o12 o12Z o12E o12K o13 o13Z o13E o13K o14 o14Z o14E o14K (TP_fr f8 (fun _ => rfl) hy0) (by (first | decide +kernel | omega)) (Or.inl (by (first | decide +kernel | omega)))) (fun z20 h21 z20Z z20E p22 => ?_)
    obtain ⟨hI23, fh21, o25, o25Z, o25E, o25K, o26, o26Z, o26E, o26K, o27, o27Z, o27E, o27K, o28, o28Z, o28E, o28K, o29, o29Z, o29E, o29K, o30, o30Z, o30E, o30K, p22⟩ := p22
    have f24 : fr S_Mod_readLineOfX_8 h h21 := fr_call f8 fh21 rfl
    have g31 : 0 ≤ o25Z ∧ o25Z ≤ 160 := inv_at hI23 o25E o25K.symm rfl
    have g32 : 0 ≤ o26Z ∧ o26Z ≤ 160 := inv_at hI23 o26E o26K.symm rfl
    replace p22 := And.intro (p22.1.resolve_right (fun q => by (first | decide +kernel | omega))) p22.2
    refine N_iast sk_119 z19E (by (first | decide +kernel | omega)) d_Mod_readLineOf_136 (fun h33 eh33 => ?_)
    have hI34 : Inv h33 := inv_full hI23 eh33 (st_lo (by (first | decide +kernel | omega)))
    have f35 : fr S_Mod_readLineOfX_8 h h33 := fr_put f24 eh33 rfl
    refine V_goto 152 d_Mod_readLineOf_137 (by decide) ?_
    exact V_vret rfl d_Mod_readLineOf_152 ⟨rfl, ⟨hI34, f35, o25, o25Z, o25E, (kn_ne eh33 o25K (by decide)), o26, o26Z, o26E, (kn_ne eh33 o26K (by decide)), o27, o27Z, o27E, (kn_ne eh33 o27K (by decide)), o28, o28Z, o28E, (kn_ne eh33 o28K (by decide)), o29, o29Z, o29E, (kn_ne eh33 o29K (by decide)), o30, o30Z, o30E, (kn_ne eh33 o30K (by decide)), ⟨Or.inl ⟨by (first | decide +kernel | omega), (show x_l5 b T p0 = (x_cN b p0 0 3, x_fr b p0) from by unfold x_l5; rw [x_sq_y (c := x_cN b p0 0 3) (by (first | decide +kernel | omega))]).trans (pq (by (first | decide +kernel | omega)) (by (first | decide +kernel | omega)))⟩, by (first | decide +kernel | omega), by (first | decide +kernel | omega), by (first | decide +kernel | omega)⟩⟩⟩
  ·
    replace p6 := And.intro ((p6.1.resolve_left (fun q => by (first | decide +kernel | omega))).resolve_right (fun q => by (first | decide +kernel | omega))) p6.2
    have g36 := x_c4_s (T 5 (x_vl b p0))
    refine V_aload_n 0 d_Mod_readLineOf_121 rfl rfl ?_
    refine V_getR fa_Mod_17 sk_116 rfl d_Mod_readLineOf_122 ?_
    refine V_bipush 80 d_Mod_readLineOf_125 (by decide) ?_
    refine V_iload_n 2 d_Mod_readLineOf_127 rfl rfl ?_
    refine V_iadd tc_80 z4E (by (first | decide +kernel | omega)) d_Mod_readLineOf_128 (fun z37 z37e z37E => ?_)
    refine V_aload_n 0 d_Mod_readLineOf_129 rfl rfl ?_
    refine V_iconst 0 d_Mod_readLineOf_130 (by decide) ?_
    refine V_bipush 99 d_Mod_readLineOf_131 (by decide) ?_
    refine N_callVI [.int 0, .int 99] [.int z37, .ref 119] cv_Mod_158 sk_116 rfl d_Mod_readLineOf_133 rfl (Nat.le_of_ble_eq_true rfl) (by decide) (by decide) (c_Mod_readNumberX h5 b (x_en b p0) hI7 0 0 tc_0 99 99 tc_99 s sZ sE (kn_call fh5 sK rfl) o9 o9Z o9E o9K o10 o10Z o10E o10K o11 o11Z o11E o11K o12 o12Z o12E o12K o13 o13Z o13E o13K o14 o14Z o14E o14K (TP_fr f8 (fun _ => rfl) hy0) (by (first | decide +kernel | omega)) (Or.inl (by (first | decide +kernel | omega)))) (fun z38 h39 z38Z z38E p40 => ?_)
    obtain ⟨hI41, fh39, o43, o43Z, o43E, o43K, o44, o44Z, o44E, o44K, o45, o45Z, o45E, o45K, o46, o46Z, o46E, o46K, o47, o47Z, o47E, o47K, o48, o48Z, o48E, o48K, p40⟩ := p40
    have f42 : fr S_Mod_readLineOfX_8 h h39 := fr_call f8 fh39 rfl
    have g49 : 0 ≤ o43Z ∧ o43Z ≤ 160 := inv_at hI41 o43E o43K.symm rfl
    have g50 : 0 ≤ o44Z ∧ o44Z ≤ 160 := inv_at hI41 o44E o44K.symm rfl
    replace p40 := And.intro (p40.1.resolve_right (fun q => by (first | decide +kernel | omega))) p40.2
    refine N_iast sk_119 z37E (by (first | decide +kernel | omega)) d_Mod_readLineOf_136 (fun h51 eh51 => ?_)
    have hI52 : Inv h51 := inv_full hI41 eh51 (st_lo (by (first | decide +kernel | omega)))
    have f53 : fr S_Mod_readLineOfX_8 h h51 := fr_put f42 eh51 rfl
    refine V_goto 152 d_Mod_readLineOf_137 (by decide) ?_
    exact V_vret rfl d_Mod_readLineOf_152 ⟨rfl, ⟨hI52, f53, o43, o43Z, o43E, (kn_ne eh51 o43K (by decide)), o44, o44Z, o44E, (kn_ne eh51 o44K (by decide)), o45, o45Z, o45E, (kn_ne eh51 o45K (by decide)), o46, o46Z, o46E, (kn_ne eh51 o46K (by decide)), o47, o47Z, o47E, (kn_ne eh51 o47K (by decide)), o48, o48Z, o48E, (kn_ne eh51 o48K (by decide)), ⟨Or.inl ⟨by (first | decide +kernel | omega), (show x_l5 b T p0 = (x_c4 (T 5 (x_vl b p0)), x_fr b p0) from by unfold x_l5; rw [x_sq_n (c := x_cN b p0 0 3) (by (first | decide +kernel | omega)), x_sq_y (c := x_c4 (T 5 (x_vl b p0))) (by (first | decide +kernel | omega))]).trans (pq (by (first | decide +kernel | omega)) (by (first | decide +kernel | omega)))⟩, by (first | decide +kernel | omega), by (first | decide +kernel | omega), by (first | decide +kernel | omega)⟩⟩⟩
  ·
    replace p6 := And.intro (((p6.1.resolve_left (fun q => by (first | decide +kernel | omega))).resolve_left (fun q => by (first | decide +kernel | omega))).2.2.2.1.resolve_right (fun q => by (first | decide +kernel | omega))) p6.2
    have g54 := x_cN_s b (x_en b p0) 0 99
    refine V_aload_n 0 d_Mod_readLineOf_121 rfl rfl ?_
    refine V_getR fa_Mod_17 sk_116 rfl d_Mod_readLineOf_122 ?_
    refine V_bipush 80 d_Mod_readLineOf_125 (by decide) ?_
    refine V_iload_n 2 d_Mod_readLineOf_127 rfl rfl ?_
    refine V_iadd tc_80 z4E (by (first | decide +kernel | omega)) d_Mod_readLineOf_128 (fun z55 z55e z55E => ?_)
    refine V_aload_n 0 d_Mod_readLineOf_129 rfl rfl ?_
    refine V_iconst 0 d_Mod_readLineOf_130 (by decide) ?_
    refine V_bipush 99 d_Mod_readLineOf_131 (by decide) ?_
    refine N_callVI [.int 0, .int 99] [.int z55, .ref 119] cv_Mod_158 sk_116 rfl d_Mod_readLineOf_133 rfl (Nat.le_of_ble_eq_true rfl) (by decide) (by decide) (c_Mod_readNumberX h5 b (x_en b p0) hI7 0 0 tc_0 99 99 tc_99 s sZ sE (kn_call fh5 sK rfl) o9 o9Z o9E o9K o10 o10Z o10E o10K o11 o11Z o11E o11K o12 o12Z o12E o12K o13 o13Z o13E o13K o14 o14Z o14E o14K (TP_fr f8 (fun _ => rfl) hy0) (by (first | decide +kernel | omega)) (Or.inl (by (first | decide +kernel | omega)))) (fun z56 h57 z56Z z56E p58 => ?_)
    obtain ⟨hI59, fh57, o61, o61Z, o61E, o61K, o62, o62Z, o62E, o62K, o63, o63Z, o63E, o63K, o64, o64Z, o64E, o64K, o65, o65Z, o65E, o65K, o66, o66Z, o66E, o66K, p58⟩ := p58
    have f60 : fr S_Mod_readLineOfX_8 h h57 := fr_call f8 fh57 rfl
    have g67 : 0 ≤ o61Z ∧ o61Z ≤ 160 := inv_at hI59 o61E o61K.symm rfl
    have g68 : 0 ≤ o62Z ∧ o62Z ≤ 160 := inv_at hI59 o62E o62K.symm rfl
    replace p58 := And.intro (p58.1.resolve_right (fun q => by (first | decide +kernel | omega))) p58.2
    refine N_iast sk_119 z55E (by (first | decide +kernel | omega)) d_Mod_readLineOf_136 (fun h69 eh69 => ?_)
    have hI70 : Inv h69 := inv_full hI59 eh69 (st_lo (by (first | decide +kernel | omega)))
    have f71 : fr S_Mod_readLineOfX_8 h h69 := fr_put f60 eh69 rfl
    refine V_goto 152 d_Mod_readLineOf_137 (by decide) ?_
    exact V_vret rfl d_Mod_readLineOf_152 ⟨rfl, ⟨hI70, f71, o61, o61Z, o61E, (kn_ne eh69 o61K (by decide)), o62, o62Z, o62E, (kn_ne eh69 o62K (by decide)), o63, o63Z, o63E, (kn_ne eh69 o63K (by decide)), o64, o64Z, o64E, (kn_ne eh69 o64K (by decide)), o65, o65Z, o65E, (kn_ne eh69 o65K (by decide)), o66, o66Z, o66E, (kn_ne eh69 o66K (by decide)), ⟨Or.inl ⟨by (first | decide +kernel | omega), (show x_l5 b T p0 = (x_cN b (x_en b p0) 0 99, x_fr b (x_en b p0)) from by unfold x_l5; rw [x_sq_n (c := x_cN b p0 0 3) (by (first | decide +kernel | omega)), x_sq_n (c := x_c4 (T 5 (x_vl b p0))) (by (first | decide +kernel | omega)), x_sq_y (c := x_cN b (x_en b p0) 0 99) (by (first | decide +kernel | omega))]).trans (pq (by (first | decide +kernel | omega)) (by (first | decide +kernel | omega)))⟩, by (first | decide +kernel | omega), by (first | decide +kernel | omega), by (first | decide +kernel | omega)⟩⟩⟩
  ·
    obtain ⟨p61, p62, p63, p64, p6R⟩ := ((p6.1.resolve_left (fun q => by (first | decide +kernel | omega))).resolve_left (fun q => by (first | decide +kernel | omega)))
    replace p6 := And.intro (p64.resolve_left (fun q => by (first | decide +kernel | omega))) p6.2
    clear p64
    refine V_aload_n 0 d_Mod_readLineOf_121 rfl rfl ?_
    refine V_getR fa_Mod_17 sk_116 rfl d_Mod_readLineOf_122 ?_
    refine V_bipush 80 d_Mod_readLineOf_125 (by decide) ?_
    refine V_iload_n 2 d_Mod_readLineOf_127 rfl rfl ?_
    refine V_iadd tc_80 z4E (by (first | decide +kernel | omega)) d_Mod_readLineOf_128 (fun z72 z72e z72E => ?_)
    refine V_aload_n 0 d_Mod_readLineOf_129 rfl rfl ?_
    refine V_iconst 0 d_Mod_readLineOf_130 (by decide) ?_
    refine V_bipush 99 d_Mod_readLineOf_131 (by decide) ?_
    refine N_callVI [.int 0, .int 99] [.int z72, .ref 119] cv_Mod_158 sk_116 rfl d_Mod_readLineOf_133 rfl (Nat.le_of_ble_eq_true rfl) (by decide) (by decide) (c_Mod_readNumberX h5 b (x_en b p0) hI7 0 0 tc_0 99 99 tc_99 s sZ sE (kn_call fh5 sK rfl) o9 o9Z o9E o9K o10 o10Z o10E o10K o11 o11Z o11E o11K o12 o12Z o12E o12K o13 o13Z o13E o13K o14 o14Z o14E o14K (TP_fr f8 (fun _ => rfl) hy0) (by (first | decide +kernel | omega)) (Or.inr ⟨by (first | decide +kernel | omega), by (first | decide +kernel | omega), by (first | decide +kernel | omega), by (first | decide +kernel | omega), by (first | decide +kernel | omega), by (first | decide +kernel | omega), by (first | decide +kernel | omega), by (first | decide +kernel | omega), by (first | decide +kernel | omega), by (first | decide +kernel | omega), by (first | decide +kernel | omega)⟩)) (fun z73 h74 z73Z z73E p75 => ?_)
    obtain ⟨hI76, fh74, o78, o78Z, o78E, o78K, o79, o79Z, o79E, o79K, o80, o80Z, o80E, o80K, o81, o81Z, o81E, o81K, o82, o82Z, o82E, o82K, o83, o83Z, o83E, o83K, p75⟩ := p75
    have f77 : fr S_Mod_readLineOfX_8 h h74 := fr_call f8 fh74 rfl
    have R84 : RM h74 (x_upT T 5 (x_vl b p0)) D := RM_fr fh74 rfl p6R
    have g85 : 0 ≤ o78Z ∧ o78Z ≤ 160 := inv_at hI76 o78E o78K.symm rfl
    have g86 : 0 ≤ o79Z ∧ o79Z ≤ 160 := inv_at hI76 o79E o79K.symm rfl
    rcases (dj3 _ _ : o82Z ≠ 0 ∧ x_cN b (x_en b p0) 0 99 ≠ 0 ∨ o82Z ≠ 0 ∧ x_cN b (x_en b p0) 0 99 = 0 ∨ o82Z = 0) with c87 | c87 | c87
    ·
      replace p75 := And.intro ((p75.1.resolve_left (fun q => by (first | decide +kernel | omega))).resolve_right (fun q => by (first | decide +kernel | omega))) p75.2
      have g88 := x_cN_s b (x_en b p0) 0 99
      have g89 := x_cS_s b (x_en b (x_en b p0))
      refine N_iast sk_119 z72E (by (first | decide +kernel | omega)) d_Mod_readLineOf_136 (fun h90 eh90 => ?_)
      have hI91 : Inv h90 := inv_full hI76 eh90 (st_lo (by (first | decide +kernel | omega)))
      have f92 : fr S_Mod_readLineOfX_8 h h90 := fr_put f77 eh90 rfl
      refine V_goto 152 d_Mod_readLineOf_137 (by decide) ?_
      exact V_vret rfl d_Mod_readLineOf_152 ⟨rfl, ⟨hI91, f92, o78, o78Z, o78E, (kn_ne eh90 o78K (by decide)), o79, o79Z, o79E, (kn_ne eh90 o79K (by decide)), o80, o80Z, o80E, (kn_ne eh90 o80K (by decide)), o81, o81Z, o81E, (kn_ne eh90 o81K (by decide)), o82, o82Z, o82E, (kn_ne eh90 o82K (by decide)), o83, o83Z, o83E, (kn_ne eh90 o83K (by decide)), ⟨Or.inl ⟨by (first | decide +kernel | omega), (show x_l5 b T p0 = (x_cN b (x_en b p0) 0 99, x_fr b (x_en b p0)) from by unfold x_l5; rw [x_sq_n (c := x_cN b p0 0 3) (by (first | decide +kernel | omega)), x_sq_n (c := x_c4 (T 5 (x_vl b p0))) (by (first | decide +kernel | omega)), x_sq_y (c := x_cN b (x_en b p0) 0 99) (by (first | decide +kernel | omega))]).trans (pq (by (first | decide +kernel | omega)) (by (first | decide +kernel | omega)))⟩, by (first | decide +kernel | omega), by (first | decide +kernel | omega), by (first | decide +kernel | omega)⟩⟩⟩
    ·
      replace p75 := And.intro ((p75.1.resolve_left (fun q => by (first | decide +kernel | omega))).resolve_left (fun q => by (first | decide +kernel | omega))).2.1 (And.intro ((p75.1.resolve_left (fun q => by (first | decide +kernel | omega))).resolve_left (fun q => by (first | decide +kernel | omega))).2.2.1 (And.intro (((p75.1.resolve_left (fun q => by (first | decide +kernel | omega))).resolve_left (fun q => by (first | decide +kernel | omega))).2.2.2.resolve_right (fun q => by (first | decide +kernel | omega))) p75.2))
      have g93 := x_cN_0 p75.1
      have g94 := x_cS_4 (b := b) (p := (x_en b (x_en b p0))) (by (first | decide +kernel | omega))
      have g95 := x_cN_s b (x_en b p0) 0 99
      have g96 := x_cS_s b (x_en b (x_en b p0))
      refine N_iast sk_119 z72E (by (first | decide +kernel | omega)) d_Mod_readLineOf_136 (fun h97 eh97 => ?_)
      have hI98 : Inv h97 := inv_full hI76 eh97 (st_lo (by (first | decide +kernel | omega)))
      have f99 : fr S_Mod_readLineOfX_8 h h97 := fr_put f77 eh97 rfl
      refine V_goto 152 d_Mod_readLineOf_137 (by decide) ?_
      exact V_vret rfl d_Mod_readLineOf_152 ⟨rfl, ⟨hI98, f99, o78, o78Z, o78E, (kn_ne eh97 o78K (by decide)), o79, o79Z, o79E, (kn_ne eh97 o79K (by decide)), o80, o80Z, o80E, (kn_ne eh97 o80K (by decide)), o81, o81Z, o81E, (kn_ne eh97 o81K (by decide)), o82, o82Z, o82E, (kn_ne eh97 o82K (by decide)), o83, o83Z, o83E, (kn_ne eh97 o83K (by decide)), ⟨Or.inl ⟨by (first | decide +kernel | omega), (show x_l5 b T p0 = (x_cS b (x_en b (x_en b p0)), x_fr b (x_en b (x_en b p0))) from by unfold x_l5; rw [x_sq_n (c := x_cN b p0 0 3) (by (first | decide +kernel | omega)), x_sq_n (c := x_c4 (T 5 (x_vl b p0))) (by (first | decide +kernel | omega)), x_sq_n (c := x_cN b (x_en b p0) 0 99) (by (first | decide +kernel | omega)), x_sq_y (c := x_cS b (x_en b (x_en b p0))) (by (first | decide +kernel | omega))]).trans (pq (by (first | decide +kernel | omega)) (by (first | decide +kernel | omega)))⟩, by (first | decide +kernel | omega), by (first | decide +kernel | omega), by (first | decide +kernel | omega)⟩⟩⟩
    ·
      replace p75 := And.intro ((p75.1.resolve_left (fun q => by (first | decide +kernel | omega))).resolve_left (fun q => by (first | decide +kernel | omega))).2.1 (And.intro ((p75.1.resolve_left (fun q => by (first | decide +kernel | omega))).resolve_left (fun q => by (first | decide +kernel | omega))).2.2.1 (And.intro (((p75.1.resolve_left (fun q => by (first | decide +kernel | omega))).resolve_left (fun q => by (first | decide +kernel | omega))).2.2.2.resolve_left (fun q => by (first | decide +kernel | omega))) p75.2))
      have g100 := x_cN_0 p75.1
      refine N_iast sk_119 z72E (by (first | decide +kernel | omega)) d_Mod_readLineOf_136 (fun h101 eh101 => ?_)
      have hI102 : Inv h101 := inv_full hI76 eh101 (st_lo (by (first | decide +kernel | omega)))
      have f103 : fr S_Mod_readLineOfX_8 h h101 := fr_put f77 eh101 rfl
      have R104 : RM h101 (x_upT T 5 (x_vl b p0)) (x_up D (80 + (x_vl b p0)) (x_vl b (x_en b p0))) := RM_put R84 eh101 (Or.inl ⟨rfl, by (first | decide +kernel | omega), rfl⟩) (z73E.trans (by (first | decide +kernel | omega))) (by (first | decide +kernel | omega))
      refine V_goto 152 d_Mod_readLineOf_137 (by decide) ?_
      exact V_vret rfl d_Mod_readLineOf_152 ⟨rfl, ⟨hI102, f103, o78, o78Z, o78E, (kn_ne eh101 o78K (by decide)), o79, o79Z, o79E, (kn_ne eh101 o79K (by decide)), o80, o80Z, o80E, (kn_ne eh101 o80K (by decide)), o81, o81Z, o81E, (kn_ne eh101 o81K (by decide)), o82, o82Z, o82E, (kn_ne eh101 o82K (by decide)), o83, o83Z, o83E, (kn_ne eh101 o83K (by decide)), ⟨Or.inr ⟨by (first | decide +kernel | omega), by unfold x_l5; rw [x_sq_n (c := x_cN b p0 0 3) (by (first | decide +kernel | omega)), x_sq_n (c := x_c4 (T 5 (x_vl b p0))) (by (first | decide +kernel | omega)), x_sq_n (c := x_cN b (x_en b p0) 0 99) (by (first | decide +kernel | omega))], p75.2.2.1.2, R104⟩, by (first | decide +kernel | omega), by (first | decide +kernel | omega), by (first | decide +kernel | omega)⟩⟩⟩
def S_Mod_readLineOfX_9 : List (Nat × Option Nat) := [(116, some 16), (116, some 17), (116, some 18), (116, some 19), (116, some 20), (116, some 21), (119, none)]
abbrev q_Mod_readLineOfX_9 (h : Hp) (b : Int → Int) (T : Nat → Int → Int) (D : Nat → Int) (p0 : Int) (s : Int32) (sZ : Int) (p : Int32) (pZ : Int) (g : Int32) (gZ : Int) (k : Int32) (kZ : Int) (v : Int32) (vZ : Int) (w : Int32) (wZ : Int) (a : Int32) (aZ : Int) (m : Int32) (mZ : Int) : Option Value → Hp → Prop := pVd (fun h' => Inv h' ∧ fr S_Mod_readLineOfX_9 h h' ∧ ∃ (q : Int32) (qZ : Int), q.toInt = qZ ∧ h'.1 116 16 = q ∧ ∃ (f : Int32) (fZ : Int), f.toInt = fZ ∧ h'.1 116 17 = f ∧ ∃ (m : Int32) (mZ : Int), m.toInt = mZ ∧ h'.1 116 18 = m ∧ ∃ (x : Int32) (xZ : Int), x.toInt = xZ ∧ h'.1 116 19 = x ∧ ∃ (u : Int32) (uZ : Int), u.toInt = uZ ∧ h'.1 116 20 = u ∧ ∃ (y : Int32) (yZ : Int), y.toInt = yZ ∧ h'.1 116 21 = y ∧ ((uZ ≠ 0 ∧ x_l9 b T p0 = (uZ, yZ) ∨ uZ = 0 ∧ x_l9 b T p0 = x_sq (x_cS b (x_en b (x_en b (x_en b p0)))) (x_fr b (x_en b (x_en b (x_en b p0)))) (0, x_en b (x_en b (x_en b (x_en b p0)))) ∧ (fZ = x_fr b (x_en b (x_en b (x_en b p0))) ∧ mZ = x_kd b (x_en b (x_en b (x_en b p0))) ∧ mZ ≠ 4 ∧ 0 ≤ mZ ∧ mZ ≤ 3 ∧ qZ = x_en b (x_en b (x_en b (x_en b p0))) ∧ (mZ ≠ 2 ∨ xZ = x_vl b (x_en b (x_en b (x_en b p0))) ∧ 0 ≤ xZ ∧ xZ ≤ 99) ∧ (x_en b (x_en b (x_en b p0))) ≤ fZ ∧ fZ ≤ qZ ∧ qZ ≤ sZ ∧ (mZ = 0 ∨ fZ < qZ)) ∧ RM h' T (x_up (x_up (x_up (x_up D (87 + 3 * D 86) (x_vl b p0)) (88 + 3 * D 86) (x_vl b (x_en b p0))) (89 + 3 * D 86) (x_vl b (x_en b (x_en b p0)))) 86 (D 86 + 1))) ∧ 0 ≤ qZ ∧ qZ ≤ sZ ∧ 0 ≤ uZ))
set_option maxRecDepth 100000 in
theorem c_Mod_readLineOfX_9 (h : Hp) (b : Int → Int) (T : Nat → Int → Int) (D : Nat → Int) (p0 : Int) (hI : Inv h) (s : Int32) (sZ : Int) (sE : s.toInt = sZ) (sK : h.1 116 15 = s) (p : Int32) (pZ : Int) (pE : p.toInt = pZ) (pK : h.1 116 16 = p) (g : Int32) (gZ : Int) (gE : g.toInt = gZ) (gK : h.1 116 17 = g) (k : Int32) (kZ : Int) (kE : k.toInt = kZ) (kK : h.1 116 18 = k) (v : Int32) (vZ : Int) (vE : v.toInt = vZ) (vK : h.1 116 19 = v) (w : Int32) (wZ : Int) (wE : w.toInt = wZ) (wK : h.1 116 20 = w) (a : Int32) (aZ : Int) (aE : a.toInt = aZ) (aK : h.1 116 21 = a) (m : Int32) (mZ : Int) (mE : m.toInt = mZ) (mK : h.1 119 86 = m) (hy0 : TP h 121 sZ b) (hy1 : 0 ≤ pZ ∧ pZ ≤ sZ ∧ wZ = 0) (hy2 : gZ = x_fr b p0 ∧ kZ = x_kd b p0 ∧ kZ ≠ 4 ∧ 0 ≤ kZ ∧ kZ ≤ 3 ∧ pZ = x_en b p0 ∧ (kZ ≠ 2 ∨ vZ = x_vl b p0 ∧ 0 ≤ vZ ∧ vZ ≤ 99) ∧ p0 ≤ gZ ∧ gZ ≤ pZ ∧ pZ ≤ sZ ∧ (kZ = 0 ∨ gZ < pZ)) (hy3 : RM h T D) (hy4 : mZ < 8) : Ct y_Mod_readLineOf b_Mod_readLineOf 3 none 4 92 [.ref 116, .int 9] h (q_Mod_readLineOfX_9 h b T D p0 s sZ p pZ g gZ k kZ v vZ w wZ a aZ m mZ) := by
  refine ct_ow R_Mod [some (.ref 116), some (.int 9), none] rfl (by decide) rfl (Nat.le_of_ble_eq_true rfl) ?_
  have f0 : fr S_Mod_readLineOfX_9 h h := fr_rf
  have g1 : 0 ≤ sZ ∧ sZ ≤ 160 := inv_at hI sE sK.symm rfl
  have g2 : 0 ≤ pZ ∧ pZ ≤ 160 := inv_at hI pE pK.symm rfl
  have g3 : 0 ≤ gZ ∧ gZ ≤ 160 := inv_at hI gE gK.symm rfl
  refine V_iload_n 1 d_Mod_readLineOf_0 rfl rfl ?_
  refine V_tabIn 140 tc_9 d_Mod_readLineOf_1 (by decide) (by decide) rfl (by decide) ?_
  refine V_aload_n 0 d_Mod_readLineOf_140 rfl rfl ?_
  refine N_callVV [] [] cv_Mod_167 sk_116 rfl d_Mod_readLineOf_141 rfl (Nat.le_of_ble_eq_true rfl) (by decide) (by decide) (c_Mod_readDebtX h b T D p0 hI s sZ sE sK p pZ pE pK g gZ gE gK k kZ kE kK v vZ vE vK w wZ wE wK a aZ aE aK m mZ mE mK (TP_fr f0 (fun _ => rfl) hy0) (by (first | decide +kernel | omega)) ⟨by (first | decide +kernel | omega), by (first | decide +kernel | omega), by (first | decide +kernel | omega), by (first | decide +kernel | omega), by (first | decide +kernel | omega), by (first | decide +kernel | omega), by (first | decide +kernel | omega), by (first | decide +kernel | omega), by (first | decide +kernel | omega), by (first | decide +kernel | omega), by (first | decide +kernel | omega)⟩ hy3 (by (first | decide +kernel | omega))) (fun h5 p6 => ?_)
  obtain ⟨hI7, fh5, o9, o9Z, o9E, o9K, o10, o10Z, o10E, o10K, o11, o11Z, o11E, o11K, o12, o12Z, o12E, o12K, o13, o13Z, o13E, o13K, o14, o14Z, o14E, o14K, p6⟩ := p6
  have f8 : fr S_Mod_readLineOfX_9 h h5 := fr_call f0 fh5 rfl
  have g15 : 0 ≤ o9Z ∧ o9Z ≤ 160 := inv_at hI7 o9E o9K.symm rfl
  have g16 : 0 ≤ o10Z ∧ o10Z ≤ 160 := inv_at hI7 o10E o10K.symm rfl
  refine V_goto 152 d_Mod_readLineOf_144 (by decide) ?_
  exact V_vret rfl d_Mod_readLineOf_152 ⟨rfl, ⟨hI7, f8, o9, o9Z, o9E, o9K, o10, o10Z, o10E, o10K, o11, o11Z, o11E, o11K, o12, o12Z, o12E, o12K, o13, o13Z, o13E, o13K, o14, o14Z, o14E, o14K, p6⟩⟩
end
section
theorem rnF_ge9 (P : Int → Bool) (b : Int → Int) : ∀ (k : Nat) (p : Int), p ≤ rnF P b k p := by
  intro k
  induction k with
  | zero => intro p; exact Int.le_refl p
  | succ k ih =>
    intro p
    show p ≤ (if P (b p) = true then rnF P b k (p + 1) else p)
    split
    · have := ih (p + 1); omega
    · omega
theorem rn_ge9 (P : Int → Bool) (b : Int → Int) (p : Int) : p ≤ rn P b p := rnF_ge9 P b _ p
theorem x_fr_ge (b : Int → Int) (p : Int) : p ≤ x_fr b p := rn_ge9 blB b p
theorem x_en_ge (b : Int → Int) (p : Int) : p ≤ x_en b p := by
  have h0 := x_fr_ge b p
  have h1 := rn_ge9 leB b (x_fr b p)
  have h2 := rn_ge9 fiB b (x_fr b p)
  unfold x_en
  split
  · omega
  · split
    · omega
    · split <;> omega
end
section
def S_Mod_readLineX : List (Nat × Option Nat) := [(116, some 16), (116, some 17), (116, some 18), (116, some 19), (116, some 20), (116, some 21), (119, none), (120, none), (116, some 7), (116, some 8), (116, some 9), (116, some 10), (116, some 11), (116, some 13)]
abbrev q_Mod_readLineX (h : Hp) (b : Int → Int) (T : Nat → Int → Int) (D : Nat → Int) (p0 : Int) (s : Int32) (sZ : Int) (p : Int32) (pZ : Int) (g : Int32) (gZ : Int) (k : Int32) (kZ : Int) (v : Int32) (vZ : Int) (w : Int32) (wZ : Int) (a : Int32) (aZ : Int) (o : Int32) (oZ : Int) (m : Int32) (mZ : Int) : Option Value → Hp → Prop := pVd (fun h' => Inv h' ∧ fr S_Mod_readLineX h h' ∧ ∃ (q : Int32) (qZ : Int), q.toInt = qZ ∧ h'.1 116 16 = q ∧ ∃ (f : Int32) (fZ : Int), f.toInt = fZ ∧ h'.1 116 17 = f ∧ ∃ (m : Int32) (mZ : Int), m.toInt = mZ ∧ h'.1 116 18 = m ∧ ∃ (x : Int32) (xZ : Int), x.toInt = xZ ∧ h'.1 116 19 = x ∧ ∃ (u : Int32) (uZ : Int), u.toInt = uZ ∧ h'.1 116 20 = u ∧ ∃ (y : Int32) (yZ : Int), y.toInt = yZ ∧ h'.1 116 21 = y ∧ ((uZ ≠ 0 ∧ x_line b T (D 86) p0 = (uZ, yZ) ∨ ∃ e : Int, x_line b T (D 86) p0 = (0, e) ∧ pZ < e ∧ e ≤ sZ ∧ RM h' (x_T b T p0) (x_D b D p0) ∧ (uZ = 1 ∧ x_kd b e = 4 ∧ yZ = x_fr b e ∨ uZ = 0 ∧ fZ = x_fr b e ∧ mZ = x_kd b e ∧ mZ ≠ 4 ∧ 0 ≤ mZ ∧ mZ ≤ 3 ∧ qZ = x_en b e ∧ (mZ ≠ 2 ∨ xZ = x_vl b e ∧ 0 ≤ xZ ∧ xZ ≤ 99) ∧ e ≤ fZ ∧ fZ ≤ qZ ∧ qZ ≤ sZ ∧ (mZ = 0 ∨ fZ < qZ))) ∧ 0 ≤ qZ ∧ qZ ≤ sZ ∧ 0 ≤ uZ))
set_option maxHeartbeats 16000000 in
set_option maxRecDepth 100000 in
theorem c_Mod_readLineX (h : Hp) (b : Int → Int) (T : Nat → Int → Int) (D : Nat → Int) (p0 : Int) (hI : Inv h) (s : Int32) (sZ : Int) (sE : s.toInt = sZ) (sK : h.1 116 15 = s) (p : Int32) (pZ : Int) (pE : p.toInt = pZ) (pK : h.1 116 16 = p) (g : Int32) (gZ : Int) (gE : g.toInt = gZ) (gK : h.1 116 17 = g) (k : Int32) (kZ : Int) (kE : k.toInt = kZ) (kK : h.1 116 18 = k) (v : Int32) (vZ : Int) (vE : v.toInt = vZ) (vK : h.1 116 19 = v) (w : Int32) (wZ : Int) (wE : w.toInt = wZ) (wK : h.1 116 20 = w) (a : Int32) (aZ : Int) (aE : a.toInt = aZ) (aK : h.1 116 21 = a) (o : Int32) (oZ : Int) (oE : o.toInt = oZ) (oK : h.1 116 11 = o) (m : Int32) (mZ : Int) (mE : m.toInt = mZ) (mK : h.1 119 86 = m) (hy0 : TP h 121 sZ b) (hy1 : 0 ≤ pZ ∧ pZ ≤ sZ ∧ wZ = 0) (hy2 : gZ = x_fr b p0 ∧ kZ = x_kd b p0 ∧ kZ ≠ 4 ∧ 0 ≤ kZ ∧ kZ ≤ 3 ∧ pZ = x_en b p0 ∧ (kZ ≠ 2 ∨ vZ = x_vl b p0 ∧ 0 ≤ vZ ∧ vZ ≤ 99) ∧ p0 ≤ gZ ∧ gZ ≤ pZ ∧ pZ ≤ sZ ∧ (kZ = 0 ∨ gZ < pZ)) (hy3 : RM h T D) : Ct y_Mod_readLine b_Mod_readLine 2 none 5 116 [.ref 116] h (q_Mod_readLineX h b T D p0 s sZ p pZ g gZ k kZ v vZ w wZ a aZ o oZ m mZ) := by
  refine ct_ow R_Mod [some (.ref 116), none] rfl (by decide) rfl (Nat.le_of_ble_eq_true rfl) ?_
  have f0 : fr S_Mod_readLineX h h := fr_rf
  have g1 : 0 ≤ sZ ∧ sZ ≤ 160 := inv_at hI sE sK.symm rfl
  have g2 : 0 ≤ pZ ∧ pZ ≤ 160 := inv_at hI pE pK.symm rfl
  have g3 : 0 ≤ gZ ∧ gZ ≤ 160 := inv_at hI gE gK.symm rfl
  replace hy2 := lx_s hy2
  have g4 := RM_many hy3 mK mE
  refine V_aload_n 0 d_Mod_readLine_0 rfl rfl ?_
  refine N_getK fa_Mod_130 sk_116 rfl d_Mod_readLine_1 kK ?_
  refine V_iconst 1 d_Mod_readLine_4 (by decide) ?_
  refine V_icmp_ne 15 kE tc_1 d_Mod_readLine_5 (by decide) (fun c5 => ?_) (fun c5 => ?_)
  ·
    refine V_bipush (-4) d_Mod_readLine_15 (by decide) ?_
    refine V_istore_n 1 [some (.ref 116), some (.int (-4))] d_Mod_readLine_17 rfl (by decide) rfl rfl ?_
    refine V_aload_n 0 d_Mod_readLine_18 rfl rfl ?_
    refine V_iload_n 1 d_Mod_readLine_19 rfl rfl ?_
    refine V_bipush (-4) d_Mod_readLine_20 (by decide) ?_
    refine V_icmp_eq 29 tc_m4 tc_m4 d_Mod_readLine_22 (by decide) (fun c6 => ?_) (fun c6 => ?_)
    ·
      refine V_iconst 0 d_Mod_readLine_29 (by decide) ?_
      refine V_iconst 2 d_Mod_readLine_30 (by decide) ?_
      refine N_callVV [.int 0, .int 2] [] cv_Mod_144 sk_116 rfl d_Mod_readLine_31 rfl (Nat.le_of_ble_eq_true rfl) (by decide) (by decide) (c_Mod_needsX h hI 0 0 tc_0 2 2 tc_2 g gZ gE gK w wZ wE wK a aZ aE aK) (fun h8 p9 => ?_)
      obtain ⟨hI10, fh8, o12, o12Z, o12E, o12K, o13, o13Z, o13E, o13K, p9⟩ := p9
      have f11 : fr S_Mod_readLineX h h8 := fr_call f0 fh8 rfl
      replace p9 := (p9.resolve_left (fun q => by (first | decide +kernel | omega))).2.2
      refine V_aload_n 0 d_Mod_readLine_34 rfl rfl ?_
      refine V_iload_n 1 d_Mod_readLine_35 rfl rfl ?_
      refine V_bipush 9 d_Mod_readLine_36 (by decide) ?_
      refine V_icmp_ne 53 tc_m4 tc_9 d_Mod_readLine_38 (by decide) (fun c14 => ?_) (fun c14 => ?_)
      ·
        refine V_iconst 1 d_Mod_readLine_53 (by decide) ?_
        refine V_goto 58 d_Mod_readLine_54 (by decide) ?_
        refine V_iconst 5 d_Mod_readLine_58 (by decide) ?_
        refine N_callVV [.int 1, .int 5] [] cv_Mod_144 sk_116 rfl d_Mod_readLine_59 rfl (Nat.le_of_ble_eq_true rfl) (by decide) (by decide) (c_Mod_needsX h8 hI10 1 1 tc_1 5 5 tc_5 g gZ gE (kn_call fh8 gK rfl) o12 o12Z o12E o12K o13 o13Z o13E o13K) (fun h16 p17 => ?_)
        obtain ⟨hI18, fh16, o20, o20Z, o20E, o20K, o21, o21Z, o21E, o21K, p17⟩ := p17
        have f19 : fr S_Mod_readLineX h h16 := fr_call f11 fh16 rfl
        replace p17 := (p17.resolve_right (fun q => by (first | decide +kernel | omega))).2
        refine V_aload_n 0 d_Mod_readLine_62 rfl rfl ?_
        refine N_getK fa_Mod_102 sk_116 rfl d_Mod_readLine_63 o20K ?_
        refine V_if_ne 107 o20E d_Mod_readLine_66 (by decide) (fun c22 => ?_) (fun c22 => ?_)
        ·
          have g23 : x_fr b pZ = x_fr b (x_en b p0) := congrArg (x_fr b) (by (first | decide +kernel | omega))
          have g24 : x_kd b pZ = x_kd b (x_en b p0) := congrArg (x_kd b) (by (first | decide +kernel | omega))
          have g25 : x_en b pZ = x_en b (x_en b p0) := congrArg (x_en b) (by (first | decide +kernel | omega))
          have g26 : x_vl b pZ = x_vl b (x_en b p0) := congrArg (x_vl b) (by (first | decide +kernel | omega))
          refine V_aload_n 0 d_Mod_readLine_107 rfl rfl ?_
          refine N_callVV [] [] cv_Mod_152 sk_116 rfl d_Mod_readLine_108 rfl (Nat.le_of_ble_eq_true rfl) (by decide) (by decide) (c_Mod_nextX h16 b hI18 s sZ sE (kn_call fh16 (kn_call fh8 sK rfl) rfl) p pZ pE (kn_call fh16 (kn_call fh8 pK rfl) rfl) g gZ gE (kn_call fh16 (kn_call fh8 gK rfl) rfl) k kZ kE (kn_call fh16 (kn_call fh8 kK rfl) rfl) v vZ vE (kn_call fh16 (kn_call fh8 vK rfl) rfl) o20 o20Z o20E o20K o21 o21Z o21E o21K (TP_fr f19 (fun _ => rfl) hy0) (by (first | decide +kernel | omega))) (fun h28 p29 => ?_)
          obtain ⟨hI30, fh28, o32, o32Z, o32E, o32K, o33, o33Z, o33E, o33K, o34, o34Z, o34E, o34K, o35, o35Z, o35E, o35K, o36, o36Z, o36E, o36K, o37, o37Z, o37E, o37K, p29⟩ := p29
          have f31 : fr S_Mod_readLineX h h28 := fr_call f19 fh28 rfl
          have g38 : 0 ≤ o32Z ∧ o32Z ≤ 160 := inv_at hI30 o32E o32K.symm rfl
          have g39 : 0 ≤ o33Z ∧ o33Z ≤ 160 := inv_at hI30 o33E o33K.symm rfl
          replace p29 := p29.resolve_right (fun q => by (first | decide +kernel | omega))
          refine V_aload_n 0 d_Mod_readLine_111 rfl rfl ?_
          refine N_getK fa_Mod_102 sk_116 rfl d_Mod_readLine_112 o36K ?_
          refine V_if_le 119 o36E d_Mod_readLine_115 (by decide) (fun c40 => ?_) (fun c40 => ?_)
          ·
            exact absurd c40 (by (first | decide +kernel | omega))
          ·
            exact V_vret rfl d_Mod_readLine_118 ⟨rfl, ⟨hI30, f31, o32, o32Z, o32E, o32K, o33, o33Z, o33E, o33K, o34, o34Z, o34E, o34K, o35, o35Z, o35E, o35K, o36, o36Z, o36E, o36K, o37, o37Z, o37E, o37K, ⟨Or.inl ⟨by (first | decide +kernel | omega), (by have hc9 : x_cH b T (D 86) p0 = 2 := cH_2 (by (first | decide +kernel | omega)) (by (first | decide +kernel | omega)); exact (x_line_H (by rw [hc9]; decide)).trans (pq (by rw [hc9]; omega) (by (first | decide +kernel | omega))))⟩, by (first | decide +kernel | omega), by (first | decide +kernel | omega), by (first | decide +kernel | omega)⟩⟩⟩
        ·
          exact absurd c22 (by (first | decide +kernel | omega))
      ·
        exact absurd c14 (by decide)
    ·
      exact absurd c6 (by decide)
  ·
    refine V_aload_n 0 d_Mod_readLine_8 rfl rfl ?_
    refine N_callVI [] [] cv_Mod_174 sk_116 rfl d_Mod_readLine_9 rfl (Nat.le_of_ble_eq_true rfl) (by decide) (by decide) (c_Mod_lineNowX h b hI s sZ sE sK p pZ pE pK g gZ gE gK (TP_fr f0 (fun _ => rfl) hy0) (by (first | decide +kernel | omega)) (by (first | decide +kernel | omega))) (fun z41 h42 z41Z z41E p43 => ?_)
    obtain ⟨eh42, p43⟩ := p43
    subst eh42
    have hX : x_li b p0 = x_ln b gZ pZ := by unfold x_li; rw [show x_fr b p0 = gZ by (first | decide +kernel | omega), show x_en b p0 = pZ by (first | decide +kernel | omega)]
    refine V_goto 17 d_Mod_readLine_12 (by decide) ?_
    refine V_istore_n 1 [some (.ref 116), some (.int z41)] d_Mod_readLine_17 rfl (by decide) rfl rfl ?_
    rcases (by (first | decide +kernel | omega) : z41Z = (-4) ∨ z41Z = 0 ∨ z41Z = 1 ∨ z41Z = 2 ∨ z41Z = 3 ∨ z41Z = 4 ∨ z41Z = 5 ∨ z41Z = 6 ∨ z41Z = 7 ∨ z41Z = 8 ∨ z41Z = 9) with c44 | c44 | c44 | c44 | c44 | c44 | c44 | c44 | c44 | c44 | c44
    ·
      obtain rfl : z41 = (-4) := (ti_eq z41E tc_m4).mpr c44
      subst c44
      have hL : x_li b p0 = -1 := by (first | decide +kernel | omega)
      clear p43
      refine V_aload_n 0 d_Mod_readLine_18 rfl rfl ?_
      refine V_iload_n 1 d_Mod_readLine_19 rfl rfl ?_
      refine V_bipush (-4) d_Mod_readLine_20 (by decide) ?_
      refine V_icmp_eq 29 tc_m4 tc_m4 d_Mod_readLine_22 (by decide) (fun c45 => ?_) (fun c45 => ?_)
      ·
        refine V_iconst 0 d_Mod_readLine_29 (by decide) ?_
        refine V_iconst 2 d_Mod_readLine_30 (by decide) ?_
        refine N_callVV [.int 0, .int 2] [] cv_Mod_144 sk_116 rfl d_Mod_readLine_31 rfl (Nat.le_of_ble_eq_true rfl) (by decide) (by decide) (c_Mod_needsX h hI 0 0 tc_0 2 2 tc_2 g gZ gE gK w wZ wE wK a aZ aE aK) (fun h47 p48 => ?_)
        obtain ⟨hI49, fh47, o51, o51Z, o51E, o51K, o52, o52Z, o52E, o52K, p48⟩ := p48
        have f50 : fr S_Mod_readLineX h h47 := fr_call f0 fh47 rfl
        replace p48 := (p48.resolve_left (fun q => by (first | decide +kernel | omega))).2.2
        refine V_aload_n 0 d_Mod_readLine_34 rfl rfl ?_
        refine V_iload_n 1 d_Mod_readLine_35 rfl rfl ?_
        refine V_bipush 9 d_Mod_readLine_36 (by decide) ?_
        refine V_icmp_ne 53 tc_m4 tc_9 d_Mod_readLine_38 (by decide) (fun c53 => ?_) (fun c53 => ?_)
        ·
          refine V_iconst 1 d_Mod_readLine_53 (by decide) ?_
          refine V_goto 58 d_Mod_readLine_54 (by decide) ?_
          refine V_iconst 5 d_Mod_readLine_58 (by decide) ?_
          refine N_callVV [.int 1, .int 5] [] cv_Mod_144 sk_116 rfl d_Mod_readLine_59 rfl (Nat.le_of_ble_eq_true rfl) (by decide) (by decide) (c_Mod_needsX h47 hI49 1 1 tc_1 5 5 tc_5 g gZ gE (kn_call fh47 gK rfl) o51 o51Z o51E o51K o52 o52Z o52E o52K) (fun h55 p56 => ?_)
          obtain ⟨hI57, fh55, o59, o59Z, o59E, o59K, o60, o60Z, o60E, o60K, p56⟩ := p56
          have f58 : fr S_Mod_readLineX h h55 := fr_call f50 fh55 rfl
          replace p56 := (p56.resolve_right (fun q => by (first | decide +kernel | omega))).2
          refine V_aload_n 0 d_Mod_readLine_62 rfl rfl ?_
          refine N_getK fa_Mod_102 sk_116 rfl d_Mod_readLine_63 o59K ?_
          refine V_if_ne 107 o59E d_Mod_readLine_66 (by decide) (fun c61 => ?_) (fun c61 => ?_)
          ·
            have g62 : x_fr b pZ = x_fr b (x_en b p0) := congrArg (x_fr b) (by (first | decide +kernel | omega))
            have g63 : x_kd b pZ = x_kd b (x_en b p0) := congrArg (x_kd b) (by (first | decide +kernel | omega))
            have g64 : x_en b pZ = x_en b (x_en b p0) := congrArg (x_en b) (by (first | decide +kernel | omega))
            have g65 : x_vl b pZ = x_vl b (x_en b p0) := congrArg (x_vl b) (by (first | decide +kernel | omega))
            refine V_aload_n 0 d_Mod_readLine_107 rfl rfl ?_
            refine N_callVV [] [] cv_Mod_152 sk_116 rfl d_Mod_readLine_108 rfl (Nat.le_of_ble_eq_true rfl) (by decide) (by decide) (c_Mod_nextX h55 b hI57 s sZ sE (kn_call fh55 (kn_call fh47 sK rfl) rfl) p pZ pE (kn_call fh55 (kn_call fh47 pK rfl) rfl) g gZ gE (kn_call fh55 (kn_call fh47 gK rfl) rfl) k kZ kE (kn_call fh55 (kn_call fh47 kK rfl) rfl) v vZ vE (kn_call fh55 (kn_call fh47 vK rfl) rfl) o59 o59Z o59E o59K o60 o60Z o60E o60K (TP_fr f58 (fun _ => rfl) hy0) (by (first | decide +kernel | omega))) (fun h67 p68 => ?_)
            obtain ⟨hI69, fh67, o71, o71Z, o71E, o71K, o72, o72Z, o72E, o72K, o73, o73Z, o73E, o73K, o74, o74Z, o74E, o74K, o75, o75Z, o75E, o75K, o76, o76Z, o76E, o76K, p68⟩ := p68
            have f70 : fr S_Mod_readLineX h h67 := fr_call f58 fh67 rfl
            have g77 : 0 ≤ o71Z ∧ o71Z ≤ 160 := inv_at hI69 o71E o71K.symm rfl
            have g78 : 0 ≤ o72Z ∧ o72Z ≤ 160 := inv_at hI69 o72E o72K.symm rfl
            replace p68 := p68.resolve_right (fun q => by (first | decide +kernel | omega))
            refine V_aload_n 0 d_Mod_readLine_111 rfl rfl ?_
            refine N_getK fa_Mod_102 sk_116 rfl d_Mod_readLine_112 o75K ?_
            refine V_if_le 119 o75E d_Mod_readLine_115 (by decide) (fun c79 => ?_) (fun c79 => ?_)
            ·
              exact absurd c79 (by (first | decide +kernel | omega))
            ·
              exact V_vret rfl d_Mod_readLine_118 ⟨rfl, ⟨hI69, f70, o71, o71Z, o71E, o71K, o72, o72Z, o72E, o72K, o73, o73Z, o73E, o73K, o74, o74Z, o74E, o74K, o75, o75Z, o75E, o75K, o76, o76Z, o76E, o76K, ⟨Or.inl ⟨by (first | decide +kernel | omega), (by have hc9 : x_cH b T (D 86) p0 = 2 := cH_2 (by (first | decide +kernel | omega)) (by (first | decide +kernel | omega)); exact (x_line_H (by rw [hc9]; decide)).trans (pq (by rw [hc9]; omega) (by (first | decide +kernel | omega))))⟩, by (first | decide +kernel | omega), by (first | decide +kernel | omega), by (first | decide +kernel | omega)⟩⟩⟩
          ·
            exact absurd c61 (by (first | decide +kernel | omega))
        ·
          exact absurd c53 (by decide)
      ·
        exact absurd c45 (by decide)
    ·
      obtain rfl : z41 = 0 := (ti_eq z41E tc_0).mpr c44
      subst c44
      have hL : x_li b p0 = 0 := by (first | decide +kernel | omega)
      clear p43
      refine V_aload_n 0 d_Mod_readLine_18 rfl rfl ?_
      refine V_iload_n 1 d_Mod_readLine_19 rfl rfl ?_
      refine V_bipush (-4) d_Mod_readLine_20 (by decide) ?_
      refine V_icmp_eq 29 tc_0 tc_m4 d_Mod_readLine_22 (by decide) (fun c80 => ?_) (fun c80 => ?_)
      ·
        exact absurd c80 (by decide)
      ·
        refine V_iconst 1 d_Mod_readLine_25 (by decide) ?_
        refine V_goto 30 d_Mod_readLine_26 (by decide) ?_
        refine V_iconst 2 d_Mod_readLine_30 (by decide) ?_
        refine N_callVV [.int 1, .int 2] [] cv_Mod_144 sk_116 rfl d_Mod_readLine_31 rfl (Nat.le_of_ble_eq_true rfl) (by decide) (by decide) (c_Mod_needsX h hI 1 1 tc_1 2 2 tc_2 g gZ gE gK w wZ wE wK a aZ aE aK) (fun h82 p83 => ?_)
        obtain ⟨hI84, fh82, o86, o86Z, o86E, o86K, o87, o87Z, o87E, o87K, p83⟩ := p83
        have f85 : fr S_Mod_readLineX h h82 := fr_call f0 fh82 rfl
        have R88 : RM h82 T D := RM_fr fh82 rfl hy3
        replace p83 := (p83.resolve_right (fun q => by (first | decide +kernel | omega))).2
        refine V_aload_n 0 d_Mod_readLine_34 rfl rfl ?_
        refine V_iload_n 1 d_Mod_readLine_35 rfl rfl ?_
        refine V_bipush 9 d_Mod_readLine_36 (by decide) ?_
        refine V_icmp_ne 53 tc_0 tc_9 d_Mod_readLine_38 (by decide) (fun c89 => ?_) (fun c89 => ?_)
        ·
          refine V_iconst 1 d_Mod_readLine_53 (by decide) ?_
          refine V_goto 58 d_Mod_readLine_54 (by decide) ?_
          refine V_iconst 5 d_Mod_readLine_58 (by decide) ?_
          refine N_callVV [.int 1, .int 5] [] cv_Mod_144 sk_116 rfl d_Mod_readLine_59 rfl (Nat.le_of_ble_eq_true rfl) (by decide) (by decide) (c_Mod_needsX h82 hI84 1 1 tc_1 5 5 tc_5 g gZ gE (kn_call fh82 gK rfl) o86 o86Z o86E o86K o87 o87Z o87E o87K) (fun h91 p92 => ?_)
          obtain ⟨hI93, fh91, o95, o95Z, o95E, o95K, o96, o96Z, o96E, o96K, p92⟩ := p92
          have f94 : fr S_Mod_readLineX h h91 := fr_call f85 fh91 rfl
          have R97 : RM h91 T D := RM_fr fh91 rfl R88
          replace p92 := (p92.resolve_right (fun q => by (first | decide +kernel | omega))).2
          refine V_aload_n 0 d_Mod_readLine_62 rfl rfl ?_
          refine N_getK fa_Mod_102 sk_116 rfl d_Mod_readLine_63 o95K ?_
          refine V_if_ne 107 o95E d_Mod_readLine_66 (by decide) (fun c98 => ?_) (fun c98 => ?_)
          ·
            exact absurd c98 (by (first | decide +kernel | omega))
          ·
            refine V_iload_n 1 d_Mod_readLine_69 rfl rfl ?_
            refine V_iconst 3 d_Mod_readLine_70 (by decide) ?_
            refine V_icmp_gt 107 tc_0 tc_3 d_Mod_readLine_71 (by decide) (fun c99 => ?_) (fun c99 => ?_)
            ·
              exact absurd c99 (by decide)
            ·
              refine V_aload_n 0 d_Mod_readLine_74 rfl rfl ?_
              refine V_aload_n 0 d_Mod_readLine_75 rfl rfl ?_
              refine N_getK fa_Mod_75 sk_116 rfl d_Mod_readLine_76 (kn_call fh91 (kn_call fh82 oK rfl) rfl) ?_
              refine V_iload_n 1 d_Mod_readLine_79 rfl rfl ?_
              refine N_ishr d_Mod_readLine_80 (fun z100 z100Z z100E z100e => ?_)
              refine V_iconst 1 d_Mod_readLine_81 (by decide) ?_
              refine N_iand d_Mod_readLine_82 (fun z101 z101Z z101E z101e => ?_)
              have g102 : z101Z = x_told T 0 := x_bt_of (RM_told R97 (kn_call fh91 (kn_call fh82 oK rfl) rfl)) (by (first | decide +kernel | omega)) (by (first | decide +kernel | omega)) tc_0 z101E (by assumption) (by assumption)
              have g103 : x_told T 0 = T 0 0 := by simp [x_told]
              refine V_if_ne 90 z101E d_Mod_readLine_83 (by decide) (fun c104 => ?_) (fun c104 => ?_)
              ·
                refine V_iconst 0 d_Mod_readLine_90 (by decide) ?_
                refine V_iconst 4 d_Mod_readLine_91 (by decide) ?_
                refine N_callVV [.int 0, .int 4] [] cv_Mod_144 sk_116 rfl d_Mod_readLine_92 rfl (Nat.le_of_ble_eq_true rfl) (by decide) (by decide) (c_Mod_needsX h91 hI93 0 0 tc_0 4 4 tc_4 g gZ gE (kn_call fh91 (kn_call fh82 gK rfl) rfl) o95 o95Z o95E o95K o96 o96Z o96E o96K) (fun h106 p107 => ?_)
                obtain ⟨hI108, fh106, o110, o110Z, o110E, o110K, o111, o111Z, o111E, o111K, p107⟩ := p107
                have f109 : fr S_Mod_readLineX h h106 := fr_call f94 fh106 rfl
                replace p107 := (p107.resolve_left (fun q => by (first | decide +kernel | omega))).2.2
                refine V_aload_n 0 d_Mod_readLine_95 rfl rfl ?_
                refine V_dup d_Mod_readLine_96 rfl ?_
                refine N_getK fa_Mod_75 sk_116 rfl d_Mod_readLine_97 (kn_call fh106 (kn_call fh91 (kn_call fh82 oK rfl) rfl) rfl) ?_
                refine V_iconst 1 d_Mod_readLine_100 (by decide) ?_
                refine V_iload_n 1 d_Mod_readLine_101 rfl rfl ?_
                refine N_ishl d_Mod_readLine_102 (fun z112 z112Z z112E z112e => ?_)
                refine N_ior d_Mod_readLine_103 (fun z113 z113Z z113E z113e => ?_)
                refine N_putI fp_Mod_75 sk_116 rfl d_Mod_readLine_104 (fun h114 eh114 => ?_)
                have hI115 : Inv h114 := inv_full hI108 eh114 rfl
                have f116 : fr S_Mod_readLineX h h114 := fr_put f109 eh114 rfl
                have g117 : x_fr b pZ = x_fr b (x_en b p0) := congrArg (x_fr b) (by (first | decide +kernel | omega))
                have g118 : x_kd b pZ = x_kd b (x_en b p0) := congrArg (x_kd b) (by (first | decide +kernel | omega))
                have g119 : x_en b pZ = x_en b (x_en b p0) := congrArg (x_en b) (by (first | decide +kernel | omega))
                have g120 : x_vl b pZ = x_vl b (x_en b p0) := congrArg (x_vl b) (by (first | decide +kernel | omega))
                refine V_aload_n 0 d_Mod_readLine_107 rfl rfl ?_
                refine N_callVV [] [] cv_Mod_152 sk_116 rfl d_Mod_readLine_108 rfl (Nat.le_of_ble_eq_true rfl) (by decide) (by decide) (c_Mod_nextX h114 b hI115 s sZ sE (kn_nei eh114 (kn_call fh106 (kn_call fh91 (kn_call fh82 sK rfl) rfl) rfl) (by decide)) p pZ pE (kn_nei eh114 (kn_call fh106 (kn_call fh91 (kn_call fh82 pK rfl) rfl) rfl) (by decide)) g gZ gE (kn_nei eh114 (kn_call fh106 (kn_call fh91 (kn_call fh82 gK rfl) rfl) rfl) (by decide)) k kZ kE (kn_nei eh114 (kn_call fh106 (kn_call fh91 (kn_call fh82 kK rfl) rfl) rfl) (by decide)) v vZ vE (kn_nei eh114 (kn_call fh106 (kn_call fh91 (kn_call fh82 vK rfl) rfl) rfl) (by decide)) o110 o110Z o110E (kn_nei eh114 o110K (by decide)) o111 o111Z o111E (kn_nei eh114 o111K (by decide)) (TP_fr f116 (fun _ => rfl) hy0) (by (first | decide +kernel | omega))) (fun h122 p123 => ?_)
                obtain ⟨hI124, fh122, o126, o126Z, o126E, o126K, o127, o127Z, o127E, o127K, o128, o128Z, o128E, o128K, o129, o129Z, o129E, o129K, o130, o130Z, o130E, o130K, o131, o131Z, o131E, o131K, p123⟩ := p123
                have f125 : fr S_Mod_readLineX h h122 := fr_call f116 fh122 rfl
                have g132 : 0 ≤ o126Z ∧ o126Z ≤ 160 := inv_at hI124 o126E o126K.symm rfl
                have g133 : 0 ≤ o127Z ∧ o127Z ≤ 160 := inv_at hI124 o127E o127K.symm rfl
                replace p123 := p123.resolve_right (fun q => by (first | decide +kernel | omega))
                refine V_aload_n 0 d_Mod_readLine_111 rfl rfl ?_
                refine N_getK fa_Mod_102 sk_116 rfl d_Mod_readLine_112 o130K ?_
                refine V_if_le 119 o130E d_Mod_readLine_115 (by decide) (fun c134 => ?_) (fun c134 => ?_)
                ·
                  exact absurd c134 (by (first | decide +kernel | omega))
                ·
                  exact V_vret rfl d_Mod_readLine_118 ⟨rfl, ⟨hI124, f125, o126, o126Z, o126E, o126K, o127, o127Z, o127E, o127K, o128, o128Z, o128E, o128K, o129, o129Z, o129E, o129K, o130, o130Z, o130E, o130K, o131, o131Z, o131E, o131K, ⟨Or.inl ⟨by (first | decide +kernel | omega), (by have hc9 : x_cH b T (D 86) p0 = 4 := cH_4 (by (first | decide +kernel | omega)) (by (first | decide +kernel | omega)) (by rw [hL]; omega); exact (x_line_H (by rw [hc9]; decide)).trans (pq (by rw [hc9]; omega) (by (first | decide +kernel | omega))))⟩, by (first | decide +kernel | omega), by (first | decide +kernel | omega), by (first | decide +kernel | omega)⟩⟩⟩
              ·
                refine V_iconst 1 d_Mod_readLine_86 (by decide) ?_
                refine V_goto 91 d_Mod_readLine_87 (by decide) ?_
                refine V_iconst 4 d_Mod_readLine_91 (by decide) ?_
                refine N_callVV [.int 1, .int 4] [] cv_Mod_144 sk_116 rfl d_Mod_readLine_92 rfl (Nat.le_of_ble_eq_true rfl) (by decide) (by decide) (c_Mod_needsX h91 hI93 1 1 tc_1 4 4 tc_4 g gZ gE (kn_call fh91 (kn_call fh82 gK rfl) rfl) o95 o95Z o95E o95K o96 o96Z o96E o96K) (fun h136 p137 => ?_)
                obtain ⟨hI138, fh136, o140, o140Z, o140E, o140K, o141, o141Z, o141E, o141K, p137⟩ := p137
                have f139 : fr S_Mod_readLineX h h136 := fr_call f94 fh136 rfl
                have R142 : RM h136 T D := RM_fr fh136 rfl R97
                replace p137 := (p137.resolve_right (fun q => by (first | decide +kernel | omega))).2
                refine V_aload_n 0 d_Mod_readLine_95 rfl rfl ?_
                refine V_dup d_Mod_readLine_96 rfl ?_
                refine N_getK fa_Mod_75 sk_116 rfl d_Mod_readLine_97 (kn_call fh136 (kn_call fh91 (kn_call fh82 oK rfl) rfl) rfl) ?_
                refine V_iconst 1 d_Mod_readLine_100 (by decide) ?_
                refine V_iload_n 1 d_Mod_readLine_101 rfl rfl ?_
                refine N_ishl d_Mod_readLine_102 (fun z143 z143Z z143E z143e => ?_)
                refine N_ior d_Mod_readLine_103 (fun z144 z144Z z144E z144e => ?_)
                refine N_putI fp_Mod_75 sk_116 rfl d_Mod_readLine_104 (fun h145 eh145 => ?_)
                have hI146 : Inv h145 := inv_full hI138 eh145 rfl
                have f147 : fr S_Mod_readLineX h h145 := fr_put f139 eh145 rfl
                have R148 : RM h145 (x_upT T 0 0) D := RM_once R142 eh145 (kn_call fh136 (kn_call fh91 (kn_call fh82 oK rfl) rfl) rfl) tc_0 (by assumption) (by assumption) (by decide)
                have g149 : x_fr b pZ = x_fr b (x_en b p0) := congrArg (x_fr b) (by (first | decide +kernel | omega))
                have g150 : x_kd b pZ = x_kd b (x_en b p0) := congrArg (x_kd b) (by (first | decide +kernel | omega))
                have g151 : x_en b pZ = x_en b (x_en b p0) := congrArg (x_en b) (by (first | decide +kernel | omega))
                have g152 : x_vl b pZ = x_vl b (x_en b p0) := congrArg (x_vl b) (by (first | decide +kernel | omega))
                refine V_aload_n 0 d_Mod_readLine_107 rfl rfl ?_
                refine N_callVV [] [] cv_Mod_152 sk_116 rfl d_Mod_readLine_108 rfl (Nat.le_of_ble_eq_true rfl) (by decide) (by decide) (c_Mod_nextX h145 b hI146 s sZ sE (kn_nei eh145 (kn_call fh136 (kn_call fh91 (kn_call fh82 sK rfl) rfl) rfl) (by decide)) p pZ pE (kn_nei eh145 (kn_call fh136 (kn_call fh91 (kn_call fh82 pK rfl) rfl) rfl) (by decide)) g gZ gE (kn_nei eh145 (kn_call fh136 (kn_call fh91 (kn_call fh82 gK rfl) rfl) rfl) (by decide)) k kZ kE (kn_nei eh145 (kn_call fh136 (kn_call fh91 (kn_call fh82 kK rfl) rfl) rfl) (by decide)) v vZ vE (kn_nei eh145 (kn_call fh136 (kn_call fh91 (kn_call fh82 vK rfl) rfl) rfl) (by decide)) o140 o140Z o140E (kn_nei eh145 o140K (by decide)) o141 o141Z o141E (kn_nei eh145 o141K (by decide)) (TP_fr f147 (fun _ => rfl) hy0) (by (first | decide +kernel | omega))) (fun h154 p155 => ?_)
                obtain ⟨hI156, fh154, o158, o158Z, o158E, o158K, o159, o159Z, o159E, o159K, o160, o160Z, o160E, o160K, o161, o161Z, o161E, o161K, o162, o162Z, o162E, o162K, o163, o163Z, o163E, o163K, p155⟩ := p155
                have f157 : fr S_Mod_readLineX h h154 := fr_call f147 fh154 rfl
                have R164 : RM h154 (x_upT T 0 0) D := RM_fr fh154 rfl R148
                have g165 : 0 ≤ o158Z ∧ o158Z ≤ 160 := inv_at hI156 o158E o158K.symm rfl
                have g166 : 0 ≤ o159Z ∧ o159Z ≤ 160 := inv_at hI156 o159E o159K.symm rfl
                rcases (dj2 _ : o162Z ≠ 0 ∨ o162Z = 0) with c167 | c167
                ·
                  replace p155 := nx_1 (p155.resolve_left (fun q => by (first | decide +kernel | omega))) c167
                  have hH : x_cH b T (D 86) p0 = 0 := cH_0 (by (first | decide +kernel | omega)) (by (first | decide +kernel | omega)) (by rw [hL]; omega) (by (first | decide +kernel | omega))
                  have g168 := x_cN_s b (x_en b p0) 2 4
                  refine V_aload_n 0 d_Mod_readLine_111 rfl rfl ?_
                  refine N_getK fa_Mod_102 sk_116 rfl d_Mod_readLine_112 o162K ?_
                  refine V_if_le 119 o162E d_Mod_readLine_115 (by decide) (fun c169 => ?_) (fun c169 => ?_)
                  ·
                    exact absurd c169 (by (first | decide +kernel | omega))
                  ·
                    exact V_vret rfl d_Mod_readLine_118 ⟨rfl, ⟨hI156, f157, o158, o158Z, o158E, o158K, o159, o159Z, o159E, o159K, o160, o160Z, o160E, o160K, o161, o161Z, o161E, o161K, o162, o162Z, o162E, o162K, o163, o163Z, o163E, o163K, ⟨Or.inl ⟨by (first | decide +kernel | omega), (x_line_0 rfl hH hL).trans ((show x_l0 b T (x_en b p0) = (x_cN b (x_en b p0) 2 4, x_fr b (x_en b p0)) from by unfold x_l0; rw [x_sq_y (c := x_cN b (x_en b p0) 2 4) (by (first | decide +kernel | omega))]).trans (pq (by (first | decide +kernel | omega)) (by (first | decide +kernel | omega))))⟩, by (first | decide +kernel | omega), by (first | decide +kernel | omega), by (first | decide +kernel | omega)⟩⟩⟩
                ·
                  replace p155 := nx_0 (p155.resolve_left (fun q => by (first | decide +kernel | omega))) c167
                  have hH : x_cH b T (D 86) p0 = 0 := cH_0 (by (first | decide +kernel | omega)) (by (first | decide +kernel | omega)) (by rw [hL]; omega) (by (first | decide +kernel | omega))
                  refine V_aload_n 0 d_Mod_readLine_111 rfl rfl ?_
                  refine N_getK fa_Mod_102 sk_116 rfl d_Mod_readLine_112 o162K ?_
                  refine V_if_le 119 o162E d_Mod_readLine_115 (by decide) (fun c170 => ?_) (fun c170 => ?_)
                  ·
                    refine V_aload_n 0 d_Mod_readLine_119 rfl rfl ?_
                    refine V_iload_n 1 d_Mod_readLine_120 rfl rfl ?_
                    refine N_callVV [.int 0] [] cv_Mod_177 sk_116 rfl d_Mod_readLine_121 rfl (Nat.le_of_ble_eq_true rfl) (by decide) (by decide) (c_Mod_readLineOfX_0 h154 b (x_upT T 0 0) D (x_en b p0) hI156 s sZ sE (kn_call fh154 (kn_nei eh145 (kn_call fh136 (kn_call fh91 (kn_call fh82 sK rfl) rfl) rfl) (by decide)) rfl) o158 o158Z o158E o158K o159 o159Z o159E o159K o160 o160Z o160E o160K o161 o161Z o161E o161K o162 o162Z o162E o162K o163 o163Z o163E o163K (TP_fr f157 (fun _ => rfl) hy0) (by (first | decide +kernel | omega)) (lx_of p155 (by (first | decide +kernel | omega))) R164) (fun h172 p173 => ?_)
                    obtain ⟨hI174, fh172, o176, o176Z, o176E, o176K, o177, o177Z, o177E, o177K, o178, o178Z, o178E, o178K, o179, o179Z, o179E, o179K, o180, o180Z, o180E, o180K, o181, o181Z, o181E, o181K, p173⟩ := p173
                    have f175 : fr S_Mod_readLineX h h172 := fr_call f157 fh172 rfl
                    have g182 : 0 ≤ o176Z ∧ o176Z ≤ 160 := inv_at hI174 o176E o176K.symm rfl
                    have g183 : 0 ≤ o177Z ∧ o177Z ≤ 160 := inv_at hI174 o177E o177K.symm rfl
                    rcases (dj2 _ : o180Z ≠ 0 ∨ o180Z = 0) with c184 | c184
                    ·
                      obtain ⟨hq0, hq⟩ := p173.1.resolve_right (fun q => absurd q.1 c184)
                      replace p173 := p173.2
                      refine V_aload_n 0 d_Mod_readLine_124 rfl rfl ?_
                      refine N_getK fa_Mod_102 sk_116 rfl d_Mod_readLine_125 o180K ?_
                      refine V_if_ne 149 o180E d_Mod_readLine_128 (by decide) (fun c185 => ?_) (fun c185 => ?_)
                      ·
                        refine V_aload_n 0 d_Mod_readLine_149 rfl rfl ?_
                        refine N_callVV [] [] cv_Mod_152 sk_116 rfl d_Mod_readLine_150 rfl (Nat.le_of_ble_eq_true rfl) (by decide) (by decide) (c_Mod_nextX h172 b hI174 s sZ sE (kn_call fh172 (kn_call fh154 (kn_nei eh145 (kn_call fh136 (kn_call fh91 (kn_call fh82 sK rfl) rfl) rfl) (by decide)) rfl) rfl) o176 o176Z o176E o176K o177 o177Z o177E o177K o178 o178Z o178E o178K o179 o179Z o179E o179K o180 o180Z o180E o180K o181 o181Z o181E o181K (TP_fr f175 (fun _ => rfl) hy0) (by (first | decide +kernel | omega))) (fun h187 p188 => ?_)
                        obtain ⟨hI189, fh187, o191, o191Z, o191E, o191K, o192, o192Z, o192E, o192K, o193, o193Z, o193E, o193K, o194, o194Z, o194E, o194K, o195, o195Z, o195E, o195K, o196, o196Z, o196E, o196K, p188⟩ := p188
                        have f190 : fr S_Mod_readLineX h h187 := fr_call f175 fh187 rfl
                        have g197 : 0 ≤ o191Z ∧ o191Z ≤ 160 := inv_at hI189 o191E o191K.symm rfl
                        have g198 : 0 ≤ o192Z ∧ o192Z ≤ 160 := inv_at hI189 o192E o192K.symm rfl
                        replace p188 := p188.resolve_right (fun q => by (first | decide +kernel | omega))
                        exact V_vret rfl d_Mod_readLine_153 ⟨rfl, ⟨hI189, f190, o191, o191Z, o191E, o191K, o192, o192Z, o192E, o192K, o193, o193Z, o193E, o193K, o194, o194Z, o194E, o194K, o195, o195Z, o195E, o195K, o196, o196Z, o196E, o196K, ⟨Or.inl ⟨by (first | decide +kernel | omega), (x_line_0 rfl hH hL).trans (hq.trans (pq (by (first | decide +kernel | omega)) (by (first | decide +kernel | omega))))⟩, by (first | decide +kernel | omega), by (first | decide +kernel | omega), by (first | decide +kernel | omega)⟩⟩⟩
                      ·
                        exact absurd c185 (by (first | decide +kernel | omega))
                    ·
                      obtain ⟨p1730, hl, p173X, p173R⟩ := p173.1.resolve_left (fun q => absurd c184 q.1)
                      replace p173 := p173.2
                      refine V_aload_n 0 d_Mod_readLine_124 rfl rfl ?_
                      refine N_getK fa_Mod_102 sk_116 rfl d_Mod_readLine_125 o180K ?_
                      refine V_if_ne 149 o180E d_Mod_readLine_128 (by decide) (fun c199 => ?_) (fun c199 => ?_)
                      ·
                        exact absurd c199 (by (first | decide +kernel | omega))
                      ·
                        refine V_aload_n 0 d_Mod_readLine_131 rfl rfl ?_
                        refine V_aload_n 0 d_Mod_readLine_132 rfl rfl ?_
                        refine N_getK fa_Mod_130 sk_116 rfl d_Mod_readLine_133 o178K ?_
                        refine V_iconst 3 d_Mod_readLine_136 (by decide) ?_
                        refine V_icmp_ne 144 o178E tc_3 d_Mod_readLine_137 (by decide) (fun c200 => ?_) (fun c200 => ?_)
                        ·
                          have g201 := x_cS_s b (x_en b (x_en b (x_en b p0)))
                          refine V_iconst 0 d_Mod_readLine_144 (by decide) ?_
                          refine V_iconst 2 d_Mod_readLine_145 (by decide) ?_
                          refine N_callVV [.int 0, .int 2] [] cv_Mod_144 sk_116 rfl d_Mod_readLine_146 rfl (Nat.le_of_ble_eq_true rfl) (by decide) (by decide) (c_Mod_needsX h172 hI174 0 0 tc_0 2 2 tc_2 o177 o177Z o177E o177K o180 o180Z o180E o180K o181 o181Z o181E o181K) (fun h203 p204 => ?_)
                          obtain ⟨hI205, fh203, o207, o207Z, o207E, o207K, o208, o208Z, o208E, o208K, p204⟩ := p204
                          have f206 : fr S_Mod_readLineX h h203 := fr_call f175 fh203 rfl
                          replace p204 := (p204.resolve_left (fun q => by (first | decide +kernel | omega))).2.2
                          refine V_aload_n 0 d_Mod_readLine_149 rfl rfl ?_
                          refine N_callVV [] [] cv_Mod_152 sk_116 rfl d_Mod_readLine_150 rfl (Nat.le_of_ble_eq_true rfl) (by decide) (by decide) (c_Mod_nextX h203 b hI205 s sZ sE (kn_call fh203 (kn_call fh172 (kn_call fh154 (kn_nei eh145 (kn_call fh136 (kn_call fh91 (kn_call fh82 sK rfl) rfl) rfl) (by decide)) rfl) rfl) rfl) o176 o176Z o176E (kn_call fh203 o176K rfl) o177 o177Z o177E (kn_call fh203 o177K rfl) o178 o178Z o178E (kn_call fh203 o178K rfl) o179 o179Z o179E (kn_call fh203 o179K rfl) o207 o207Z o207E o207K o208 o208Z o208E o208K (TP_fr f206 (fun _ => rfl) hy0) (by (first | decide +kernel | omega))) (fun h210 p211 => ?_)
                          obtain ⟨hI212, fh210, o214, o214Z, o214E, o214K, o215, o215Z, o215E, o215K, o216, o216Z, o216E, o216K, o217, o217Z, o217E, o217K, o218, o218Z, o218E, o218K, o219, o219Z, o219E, o219K, p211⟩ := p211
                          have f213 : fr S_Mod_readLineX h h210 := fr_call f206 fh210 rfl
                          have g220 : 0 ≤ o214Z ∧ o214Z ≤ 160 := inv_at hI212 o214E o214K.symm rfl
                          have g221 : 0 ≤ o215Z ∧ o215Z ≤ 160 := inv_at hI212 o215E o215K.symm rfl
                          replace p211 := p211.resolve_right (fun q => by (first | decide +kernel | omega))
                          exact V_vret rfl d_Mod_readLine_153 ⟨rfl, ⟨hI212, f213, o214, o214Z, o214E, o214K, o215, o215Z, o215E, o215K, o216, o216Z, o216E, o216K, o217, o217Z, o217E, o217K, o218, o218Z, o218E, o218K, o219, o219Z, o219E, o219K, ⟨Or.inl ⟨by (first | decide +kernel | omega), (x_line_0 rfl hH hL).trans (hl.trans ((x_sq_y (by (first | decide +kernel | omega))).trans (pq (by (first | decide +kernel | omega)) (by (first | decide +kernel | omega)))))⟩, by (first | decide +kernel | omega), by (first | decide +kernel | omega), by (first | decide +kernel | omega)⟩⟩⟩
                        ·
                          refine V_iconst 1 d_Mod_readLine_140 (by decide) ?_
                          refine V_goto 145 d_Mod_readLine_141 (by decide) ?_
                          refine V_iconst 2 d_Mod_readLine_145 (by decide) ?_
                          refine N_callVV [.int 1, .int 2] [] cv_Mod_144 sk_116 rfl d_Mod_readLine_146 rfl (Nat.le_of_ble_eq_true rfl) (by decide) (by decide) (c_Mod_needsX h172 hI174 1 1 tc_1 2 2 tc_2 o177 o177Z o177E o177K o180 o180Z o180E o180K o181 o181Z o181E o181K) (fun h223 p224 => ?_)
                          obtain ⟨hI225, fh223, o227, o227Z, o227E, o227K, o228, o228Z, o228E, o228K, p224⟩ := p224
                          have f226 : fr S_Mod_readLineX h h223 := fr_call f175 fh223 rfl
                          have R229 : RM h223 (x_upT T 0 0) (x_up (x_up D 144 (x_vl b (x_en b p0))) 145 (x_vl b (x_en b (x_en b p0)))) := RM_fr fh223 rfl p173R
                          replace p224 := (p224.resolve_right (fun q => by (first | decide +kernel | omega))).2
                          have hS9 : x_cS b (x_en b (x_en b (x_en b p0))) = 0 := cS_of (by (first | decide +kernel | omega))
                          have hmo := And.intro (x_fr_ge b p0) (And.intro (x_en_ge b (x_en b p0)) (x_en_ge b (x_en b (x_en b p0))))
                          refine V_aload_n 0 d_Mod_readLine_149 rfl rfl ?_
                          refine N_callVV [] [] cv_Mod_152 sk_116 rfl d_Mod_readLine_150 rfl (Nat.le_of_ble_eq_true rfl) (by decide) (by decide) (c_Mod_nextX h223 b hI225 s sZ sE (kn_call fh223 (kn_call fh172 (kn_call fh154 (kn_nei eh145 (kn_call fh136 (kn_call fh91 (kn_call fh82 sK rfl) rfl) rfl) (by decide)) rfl) rfl) rfl) o176 o176Z o176E (kn_call fh223 o176K rfl) o177 o177Z o177E (kn_call fh223 o177K rfl) o178 o178Z o178E (kn_call fh223 o178K rfl) o179 o179Z o179E (kn_call fh223 o179K rfl) o227 o227Z o227E o227K o228 o228Z o228E o228K (TP_fr f226 (fun _ => rfl) hy0) (by (first | decide +kernel | omega))) (fun h231 p232 => ?_)
                          obtain ⟨hI233, fh231, o235, o235Z, o235E, o235K, o236, o236Z, o236E, o236K, o237, o237Z, o237E, o237K, o238, o238Z, o238E, o238K, o239, o239Z, o239E, o239K, o240, o240Z, o240E, o240K, p232⟩ := p232
                          have f234 : fr S_Mod_readLineX h h231 := fr_call f226 fh231 rfl
                          have R241 : RM h231 (x_upT T 0 0) (x_up (x_up D 144 (x_vl b (x_en b p0))) 145 (x_vl b (x_en b (x_en b p0)))) := RM_fr fh231 rfl R229
                          have g242 : 0 ≤ o235Z ∧ o235Z ≤ 160 := inv_at hI233 o235E o235K.symm rfl
                          have g243 : 0 ≤ o236Z ∧ o236Z ≤ 160 := inv_at hI233 o236E o236K.symm rfl
                          replace p232 := p232.resolve_left (fun q => by (first | decide +kernel | omega))
                          exact V_vret rfl d_Mod_readLine_153 ⟨rfl, ⟨hI233, f234, o235, o235Z, o235E, o235K, o236, o236Z, o236E, o236K, o237, o237Z, o237E, o237K, o238, o238Z, o238E, o238K, o239, o239Z, o239E, o239K, o240, o240Z, o240E, o240K, ⟨Or.inr ⟨x_en b (x_en b (x_en b (x_en b p0))), (x_line_0 rfl hH hL).trans (hl.trans (x_sq_n (by (first | decide +kernel | omega)))), by (first | decide +kernel | omega), by (first | decide +kernel | omega), (by rw [x_T_0 T (u := x_en b p0) rfl hL, x_D_0 D (u := x_en b p0) rfl hL]; exact R241), nx_e p232 (by (first | decide +kernel | omega))⟩, by (first | decide +kernel | omega), by (first | decide +kernel | omega), by (first | decide +kernel | omega)⟩⟩⟩
                  ·
                    exact absurd c170 (by (first | decide +kernel | omega))
        ·
          exact absurd c89 (by decide)
    ·
      obtain rfl : z41 = 1 := (ti_eq z41E tc_1).mpr c44
      subst c44
      have hL : x_li b p0 = 6 := by (first | decide +kernel | omega)
      clear p43
      refine V_aload_n 0 d_Mod_readLine_18 rfl rfl ?_
      refine V_iload_n 1 d_Mod_readLine_19 rfl rfl ?_
      refine V_bipush (-4) d_Mod_readLine_20 (by decide) ?_
      refine V_icmp_eq 29 tc_1 tc_m4 d_Mod_readLine_22 (by decide) (fun c244 => ?_) (fun c244 => ?_)
      ·
        exact absurd c244 (by decide)
      ·
        refine V_iconst 1 d_Mod_readLine_25 (by decide) ?_
        refine V_goto 30 d_Mod_readLine_26 (by decide) ?_
        refine V_iconst 2 d_Mod_readLine_30 (by decide) ?_
        refine N_callVV [.int 1, .int 2] [] cv_Mod_144 sk_116 rfl d_Mod_readLine_31 rfl (Nat.le_of_ble_eq_true rfl) (by decide) (by decide) (c_Mod_needsX h hI 1 1 tc_1 2 2 tc_2 g gZ gE gK w wZ wE wK a aZ aE aK) (fun h246 p247 => ?_)
        obtain ⟨hI248, fh246, o250, o250Z, o250E, o250K, o251, o251Z, o251E, o251K, p247⟩ := p247
        have f249 : fr S_Mod_readLineX h h246 := fr_call f0 fh246 rfl
        have R252 : RM h246 T D := RM_fr fh246 rfl hy3
        replace p247 := (p247.resolve_right (fun q => by (first | decide +kernel | omega))).2
        refine V_aload_n 0 d_Mod_readLine_34 rfl rfl ?_
        refine V_iload_n 1 d_Mod_readLine_35 rfl rfl ?_
        refine V_bipush 9 d_Mod_readLine_36 (by decide) ?_
        refine V_icmp_ne 53 tc_1 tc_9 d_Mod_readLine_38 (by decide) (fun c253 => ?_) (fun c253 => ?_)
        ·
          refine V_iconst 1 d_Mod_readLine_53 (by decide) ?_
          refine V_goto 58 d_Mod_readLine_54 (by decide) ?_
          refine V_iconst 5 d_Mod_readLine_58 (by decide) ?_
          refine N_callVV [.int 1, .int 5] [] cv_Mod_144 sk_116 rfl d_Mod_readLine_59 rfl (Nat.le_of_ble_eq_true rfl) (by decide) (by decide) (c_Mod_needsX h246 hI248 1 1 tc_1 5 5 tc_5 g gZ gE (kn_call fh246 gK rfl) o250 o250Z o250E o250K o251 o251Z o251E o251K) (fun h255 p256 => ?_)
          obtain ⟨hI257, fh255, o259, o259Z, o259E, o259K, o260, o260Z, o260E, o260K, p256⟩ := p256
          have f258 : fr S_Mod_readLineX h h255 := fr_call f249 fh255 rfl
          have R261 : RM h255 T D := RM_fr fh255 rfl R252
          replace p256 := (p256.resolve_right (fun q => by (first | decide +kernel | omega))).2
          refine V_aload_n 0 d_Mod_readLine_62 rfl rfl ?_
          refine N_getK fa_Mod_102 sk_116 rfl d_Mod_readLine_63 o259K ?_
          refine V_if_ne 107 o259E d_Mod_readLine_66 (by decide) (fun c262 => ?_) (fun c262 => ?_)
          ·
            exact absurd c262 (by (first | decide +kernel | omega))
          ·
            refine V_iload_n 1 d_Mod_readLine_69 rfl rfl ?_
            refine V_iconst 3 d_Mod_readLine_70 (by decide) ?_
            refine V_icmp_gt 107 tc_1 tc_3 d_Mod_readLine_71 (by decide) (fun c263 => ?_) (fun c263 => ?_)
            ·
              exact absurd c263 (by decide)
            ·
              refine V_aload_n 0 d_Mod_readLine_74 rfl rfl ?_
              refine V_aload_n 0 d_Mod_readLine_75 rfl rfl ?_
              refine N_getK fa_Mod_75 sk_116 rfl d_Mod_readLine_76 (kn_call fh255 (kn_call fh246 oK rfl) rfl) ?_
              refine V_iload_n 1 d_Mod_readLine_79 rfl rfl ?_
              refine N_ishr d_Mod_readLine_80 (fun z264 z264Z z264E z264e => ?_)
              refine V_iconst 1 d_Mod_readLine_81 (by decide) ?_
              refine N_iand d_Mod_readLine_82 (fun z265 z265Z z265E z265e => ?_)
              have g266 : z265Z = x_told T 1 := x_bt_of (RM_told R261 (kn_call fh255 (kn_call fh246 oK rfl) rfl)) (by (first | decide +kernel | omega)) (by (first | decide +kernel | omega)) tc_1 z265E (by assumption) (by assumption)
              have g267 : x_told T 1 = T 6 0 := by simp [x_told]
              refine V_if_ne 90 z265E d_Mod_readLine_83 (by decide) (fun c268 => ?_) (fun c268 => ?_)
              ·
                refine V_iconst 0 d_Mod_readLine_90 (by decide) ?_
                refine V_iconst 4 d_Mod_readLine_91 (by decide) ?_
                refine N_callVV [.int 0, .int 4] [] cv_Mod_144 sk_116 rfl d_Mod_readLine_92 rfl (Nat.le_of_ble_eq_true rfl) (by decide) (by decide) (c_Mod_needsX h255 hI257 0 0 tc_0 4 4 tc_4 g gZ gE (kn_call fh255 (kn_call fh246 gK rfl) rfl) o259 o259Z o259E o259K o260 o260Z o260E o260K) (fun h270 p271 => ?_)
                obtain ⟨hI272, fh270, o274, o274Z, o274E, o274K, o275, o275Z, o275E, o275K, p271⟩ := p271
                have f273 : fr S_Mod_readLineX h h270 := fr_call f258 fh270 rfl
                replace p271 := (p271.resolve_left (fun q => by (first | decide +kernel | omega))).2.2
                refine V_aload_n 0 d_Mod_readLine_95 rfl rfl ?_
                refine V_dup d_Mod_readLine_96 rfl ?_
                refine N_getK fa_Mod_75 sk_116 rfl d_Mod_readLine_97 (kn_call fh270 (kn_call fh255 (kn_call fh246 oK rfl) rfl) rfl) ?_
                refine V_iconst 1 d_Mod_readLine_100 (by decide) ?_
                refine V_iload_n 1 d_Mod_readLine_101 rfl rfl ?_
                refine N_ishl d_Mod_readLine_102 (fun z276 z276Z z276E z276e => ?_)
                refine N_ior d_Mod_readLine_103 (fun z277 z277Z z277E z277e => ?_)
                refine N_putI fp_Mod_75 sk_116 rfl d_Mod_readLine_104 (fun h278 eh278 => ?_)
                have hI279 : Inv h278 := inv_full hI272 eh278 rfl
                have f280 : fr S_Mod_readLineX h h278 := fr_put f273 eh278 rfl
                have g281 : x_fr b pZ = x_fr b (x_en b p0) := congrArg (x_fr b) (by (first | decide +kernel | omega))
                have g282 : x_kd b pZ = x_kd b (x_en b p0) := congrArg (x_kd b) (by (first | decide +kernel | omega))
                have g283 : x_en b pZ = x_en b (x_en b p0) := congrArg (x_en b) (by (first | decide +kernel | omega))
                have g284 : x_vl b pZ = x_vl b (x_en b p0) := congrArg (x_vl b) (by (first | decide +kernel | omega))
                refine V_aload_n 0 d_Mod_readLine_107 rfl rfl ?_
                refine N_callVV [] [] cv_Mod_152 sk_116 rfl d_Mod_readLine_108 rfl (Nat.le_of_ble_eq_true rfl) (by decide) (by decide) (c_Mod_nextX h278 b hI279 s sZ sE (kn_nei eh278 (kn_call fh270 (kn_call fh255 (kn_call fh246 sK rfl) rfl) rfl) (by decide)) p pZ pE (kn_nei eh278 (kn_call fh270 (kn_call fh255 (kn_call fh246 pK rfl) rfl) rfl) (by decide)) g gZ gE (kn_nei eh278 (kn_call fh270 (kn_call fh255 (kn_call fh246 gK rfl) rfl) rfl) (by decide)) k kZ kE (kn_nei eh278 (kn_call fh270 (kn_call fh255 (kn_call fh246 kK rfl) rfl) rfl) (by decide)) v vZ vE (kn_nei eh278 (kn_call fh270 (kn_call fh255 (kn_call fh246 vK rfl) rfl) rfl) (by decide)) o274 o274Z o274E (kn_nei eh278 o274K (by decide)) o275 o275Z o275E (kn_nei eh278 o275K (by decide)) (TP_fr f280 (fun _ => rfl) hy0) (by (first | decide +kernel | omega))) (fun h286 p287 => ?_)
                obtain ⟨hI288, fh286, o290, o290Z, o290E, o290K, o291, o291Z, o291E, o291K, o292, o292Z, o292E, o292K, o293, o293Z, o293E, o293K, o294, o294Z, o294E, o294K, o295, o295Z, o295E, o295K, p287⟩ := p287
                have f289 : fr S_Mod_readLineX h h286 := fr_call f280 fh286 rfl
                have g296 : 0 ≤ o290Z ∧ o290Z ≤ 160 := inv_at hI288 o290E o290K.symm rfl
                have g297 : 0 ≤ o291Z ∧ o291Z ≤ 160 := inv_at hI288 o291E o291K.symm rfl
                replace p287 := p287.resolve_right (fun q => by (first | decide +kernel | omega))
                refine V_aload_n 0 d_Mod_readLine_111 rfl rfl ?_
                refine N_getK fa_Mod_102 sk_116 rfl d_Mod_readLine_112 o294K ?_
                refine V_if_le 119 o294E d_Mod_readLine_115 (by decide) (fun c298 => ?_) (fun c298 => ?_)
                ·
                  exact absurd c298 (by (first | decide +kernel | omega))
                ·
                  exact V_vret rfl d_Mod_readLine_118 ⟨rfl, ⟨hI288, f289, o290, o290Z, o290E, o290K, o291, o291Z, o291E, o291K, o292, o292Z, o292E, o292K, o293, o293Z, o293E, o293K, o294, o294Z, o294E, o294K, o295, o295Z, o295E, o295K, ⟨Or.inl ⟨by (first | decide +kernel | omega), (by have hc9 : x_cH b T (D 86) p0 = 4 := cH_4 (by (first | decide +kernel | omega)) (by (first | decide +kernel | omega)) (by rw [hL]; omega); exact (x_line_H (by rw [hc9]; decide)).trans (pq (by rw [hc9]; omega) (by (first | decide +kernel | omega))))⟩, by (first | decide +kernel | omega), by (first | decide +kernel | omega), by (first | decide +kernel | omega)⟩⟩⟩
              ·
                refine V_iconst 1 d_Mod_readLine_86 (by decide) ?_
                refine V_goto 91 d_Mod_readLine_87 (by decide) ?_
                refine V_iconst 4 d_Mod_readLine_91 (by decide) ?_
                refine N_callVV [.int 1, .int 4] [] cv_Mod_144 sk_116 rfl d_Mod_readLine_92 rfl (Nat.le_of_ble_eq_true rfl) (by decide) (by decide) (c_Mod_needsX h255 hI257 1 1 tc_1 4 4 tc_4 g gZ gE (kn_call fh255 (kn_call fh246 gK rfl) rfl) o259 o259Z o259E o259K o260 o260Z o260E o260K) (fun h300 p301 => ?_)
                obtain ⟨hI302, fh300, o304, o304Z, o304E, o304K, o305, o305Z, o305E, o305K, p301⟩ := p301
                have f303 : fr S_Mod_readLineX h h300 := fr_call f258 fh300 rfl
                have R306 : RM h300 T D := RM_fr fh300 rfl R261
                replace p301 := (p301.resolve_right (fun q => by (first | decide +kernel | omega))).2
                refine V_aload_n 0 d_Mod_readLine_95 rfl rfl ?_
                refine V_dup d_Mod_readLine_96 rfl ?_
                refine N_getK fa_Mod_75 sk_116 rfl d_Mod_readLine_97 (kn_call fh300 (kn_call fh255 (kn_call fh246 oK rfl) rfl) rfl) ?_
                refine V_iconst 1 d_Mod_readLine_100 (by decide) ?_
                refine V_iload_n 1 d_Mod_readLine_101 rfl rfl ?_
                refine N_ishl d_Mod_readLine_102 (fun z307 z307Z z307E z307e => ?_)
                refine N_ior d_Mod_readLine_103 (fun z308 z308Z z308E z308e => ?_)
                refine N_putI fp_Mod_75 sk_116 rfl d_Mod_readLine_104 (fun h309 eh309 => ?_)
                have hI310 : Inv h309 := inv_full hI302 eh309 rfl
                have f311 : fr S_Mod_readLineX h h309 := fr_put f303 eh309 rfl
                have R312 : RM h309 (x_upT T 6 0) D := RM_once R306 eh309 (kn_call fh300 (kn_call fh255 (kn_call fh246 oK rfl) rfl) rfl) tc_1 (by assumption) (by assumption) (by decide)
                have g313 : x_fr b pZ = x_fr b (x_en b p0) := congrArg (x_fr b) (by (first | decide +kernel | omega))
                have g314 : x_kd b pZ = x_kd b (x_en b p0) := congrArg (x_kd b) (by (first | decide +kernel | omega))
                have g315 : x_en b pZ = x_en b (x_en b p0) := congrArg (x_en b) (by (first | decide +kernel | omega))
                have g316 : x_vl b pZ = x_vl b (x_en b p0) := congrArg (x_vl b) (by (first | decide +kernel | omega))
                refine V_aload_n 0 d_Mod_readLine_107 rfl rfl ?_
                refine N_callVV [] [] cv_Mod_152 sk_116 rfl d_Mod_readLine_108 rfl (Nat.le_of_ble_eq_true rfl) (by decide) (by decide) (c_Mod_nextX h309 b hI310 s sZ sE (kn_nei eh309 (kn_call fh300 (kn_call fh255 (kn_call fh246 sK rfl) rfl) rfl) (by decide)) p pZ pE (kn_nei eh309 (kn_call fh300 (kn_call fh255 (kn_call fh246 pK rfl) rfl) rfl) (by decide)) g gZ gE (kn_nei eh309 (kn_call fh300 (kn_call fh255 (kn_call fh246 gK rfl) rfl) rfl) (by decide)) k kZ kE (kn_nei eh309 (kn_call fh300 (kn_call fh255 (kn_call fh246 kK rfl) rfl) rfl) (by decide)) v vZ vE (kn_nei eh309 (kn_call fh300 (kn_call fh255 (kn_call fh246 vK rfl) rfl) rfl) (by decide)) o304 o304Z o304E (kn_nei eh309 o304K (by decide)) o305 o305Z o305E (kn_nei eh309 o305K (by decide)) (TP_fr f311 (fun _ => rfl) hy0) (by (first | decide +kernel | omega))) (fun h318 p319 => ?_)
                obtain ⟨hI320, fh318, o322, o322Z, o322E, o322K, o323, o323Z, o323E, o323K, o324, o324Z, o324E, o324K, o325, o325Z, o325E, o325K, o326, o326Z, o326E, o326K, o327, o327Z, o327E, o327K, p319⟩ := p319
                have f321 : fr S_Mod_readLineX h h318 := fr_call f311 fh318 rfl
                have R328 : RM h318 (x_upT T 6 0) D := RM_fr fh318 rfl R312
                have g329 : 0 ≤ o322Z ∧ o322Z ≤ 160 := inv_at hI320 o322E o322K.symm rfl
                have g330 : 0 ≤ o323Z ∧ o323Z ≤ 160 := inv_at hI320 o323E o323K.symm rfl
                rcases (dj2 _ : o326Z ≠ 0 ∨ o326Z = 0) with c331 | c331
                ·
                  replace p319 := nx_1 (p319.resolve_left (fun q => by (first | decide +kernel | omega))) c331
                  have hH : x_cH b T (D 86) p0 = 0 := cH_0 (by (first | decide +kernel | omega)) (by (first | decide +kernel | omega)) (by rw [hL]; omega) (by (first | decide +kernel | omega))
                  have g332 := x_cN_s b (x_en b p0) 1 9
                  refine V_aload_n 0 d_Mod_readLine_111 rfl rfl ?_
                  refine N_getK fa_Mod_102 sk_116 rfl d_Mod_readLine_112 o326K ?_
                  refine V_if_le 119 o326E d_Mod_readLine_115 (by decide) (fun c333 => ?_) (fun c333 => ?_)
                  ·
                    exact absurd c333 (by (first | decide +kernel | omega))
                  ·
                    exact V_vret rfl d_Mod_readLine_118 ⟨rfl, ⟨hI320, f321, o322, o322Z, o322E, o322K, o323, o323Z, o323E, o323K, o324, o324Z, o324E, o324K, o325, o325Z, o325E, o325K, o326, o326Z, o326E, o326K, o327, o327Z, o327E, o327K, ⟨Or.inl ⟨by (first | decide +kernel | omega), (x_line_6 rfl hH hL).trans ((show x_l6 b T (x_en b p0) = (x_cN b (x_en b p0) 1 9, x_fr b (x_en b p0)) from by unfold x_l6; rw [x_sq_y (c := x_cN b (x_en b p0) 1 9) (by (first | decide +kernel | omega))]).trans (pq (by (first | decide +kernel | omega)) (by (first | decide +kernel | omega))))⟩, by (first | decide +kernel | omega), by (first | decide +kernel | omega), by (first | decide +kernel | omega)⟩⟩⟩
                ·
                  replace p319 := nx_0 (p319.resolve_left (fun q => by (first | decide +kernel | omega))) c331
                  have hH : x_cH b T (D 86) p0 = 0 := cH_0 (by (first | decide +kernel | omega)) (by (first | decide +kernel | omega)) (by rw [hL]; omega) (by (first | decide +kernel | omega))
                  refine V_aload_n 0 d_Mod_readLine_111 rfl rfl ?_
                  refine N_getK fa_Mod_102 sk_116 rfl d_Mod_readLine_112 o326K ?_
                  refine V_if_le 119 o326E d_Mod_readLine_115 (by decide) (fun c334 => ?_) (fun c334 => ?_)
                  ·
                    refine V_aload_n 0 d_Mod_readLine_119 rfl rfl ?_
                    refine V_iload_n 1 d_Mod_readLine_120 rfl rfl ?_
                    refine N_callVV [.int 1] [] cv_Mod_177 sk_116 rfl d_Mod_readLine_121 rfl (Nat.le_of_ble_eq_true rfl) (by decide) (by decide) (c_Mod_readLineOfX_1 h318 b (x_upT T 6 0) D (x_en b p0) hI320 s sZ sE (kn_call fh318 (kn_nei eh309 (kn_call fh300 (kn_call fh255 (kn_call fh246 sK rfl) rfl) rfl) (by decide)) rfl) o322 o322Z o322E o322K o323 o323Z o323E o323K o324 o324Z o324E o324K o325 o325Z o325E o325K o326 o326Z o326E o326K o327 o327Z o327E o327K (TP_fr f321 (fun _ => rfl) hy0) (by (first | decide +kernel | omega)) (lx_of p319 (by (first | decide +kernel | omega))) R328) (fun h336 p337 => ?_)
                    obtain ⟨hI338, fh336, o340, o340Z, o340E, o340K, o341, o341Z, o341E, o341K, o342, o342Z, o342E, o342K, o343, o343Z, o343E, o343K, o344, o344Z, o344E, o344K, o345, o345Z, o345E, o345K, p337⟩ := p337
                    have f339 : fr S_Mod_readLineX h h336 := fr_call f321 fh336 rfl
                    have g346 : 0 ≤ o340Z ∧ o340Z ≤ 160 := inv_at hI338 o340E o340K.symm rfl
                    have g347 : 0 ≤ o341Z ∧ o341Z ≤ 160 := inv_at hI338 o341E o341K.symm rfl
                    rcases (dj2 _ : o344Z ≠ 0 ∨ o344Z = 0) with c348 | c348
                    ·
                      obtain ⟨hq0, hq⟩ := p337.1.resolve_right (fun q => absurd q.1 c348)
                      replace p337 := p337.2
                      refine V_aload_n 0 d_Mod_readLine_124 rfl rfl ?_
                      refine N_getK fa_Mod_102 sk_116 rfl d_Mod_readLine_125 o344K ?_
                      refine V_if_ne 149 o344E d_Mod_readLine_128 (by decide) (fun c349 => ?_) (fun c349 => ?_)
                      ·
                        refine V_aload_n 0 d_Mod_readLine_149 rfl rfl ?_
                        refine N_callVV [] [] cv_Mod_152 sk_116 rfl d_Mod_readLine_150 rfl (Nat.le_of_ble_eq_true rfl) (by decide) (by decide) (c_Mod_nextX h336 b hI338 s sZ sE (kn_call fh336 (kn_call fh318 (kn_nei eh309 (kn_call fh300 (kn_call fh255 (kn_call fh246 sK rfl) rfl) rfl) (by decide)) rfl) rfl) o340 o340Z o340E o340K o341 o341Z o341E o341K o342 o342Z o342E o342K o343 o343Z o343E o343K o344 o344Z o344E o344K o345 o345Z o345E o345K (TP_fr f339 (fun _ => rfl) hy0) (by (first | decide +kernel | omega))) (fun h351 p352 => ?_)
                        obtain ⟨hI353, fh351, o355, o355Z, o355E, o355K, o356, o356Z, o356E, o356K, o357, o357Z, o357E, o357K, o358, o358Z, o358E, o358K, o359, o359Z, o359E, o359K, o360, o360Z, o360E, o360K, p352⟩ := p352
                        have f354 : fr S_Mod_readLineX h h351 := fr_call f339 fh351 rfl
                        have g361 : 0 ≤ o355Z ∧ o355Z ≤ 160 := inv_at hI353 o355E o355K.symm rfl
                        have g362 : 0 ≤ o356Z ∧ o356Z ≤ 160 := inv_at hI353 o356E o356K.symm rfl
                        replace p352 := p352.resolve_right (fun q => by (first | decide +kernel | omega))
                        exact V_vret rfl d_Mod_readLine_153 ⟨rfl, ⟨hI353, f354, o355, o355Z, o355E, o355K, o356, o356Z, o356E, o356K, o357, o357Z, o357E, o357K, o358, o358Z, o358E, o358K, o359, o359Z, o359E, o359K, o360, o360Z, o360E, o360K, ⟨Or.inl ⟨by (first | decide +kernel | omega), (x_line_6 rfl hH hL).trans (hq.trans (pq (by (first | decide +kernel | omega)) (by (first | decide +kernel | omega))))⟩, by (first | decide +kernel | omega), by (first | decide +kernel | omega), by (first | decide +kernel | omega)⟩⟩⟩
                      ·
                        exact absurd c349 (by (first | decide +kernel | omega))
                    ·
                      obtain ⟨p3370, hl, p337X, p337R⟩ := p337.1.resolve_left (fun q => absurd c348 q.1)
                      replace p337 := p337.2
                      refine V_aload_n 0 d_Mod_readLine_124 rfl rfl ?_
                      refine N_getK fa_Mod_102 sk_116 rfl d_Mod_readLine_125 o344K ?_
                      refine V_if_ne 149 o344E d_Mod_readLine_128 (by decide) (fun c363 => ?_) (fun c363 => ?_)
                      ·
                        exact absurd c363 (by (first | decide +kernel | omega))
                      ·
                        refine V_aload_n 0 d_Mod_readLine_131 rfl rfl ?_
                        refine V_aload_n 0 d_Mod_readLine_132 rfl rfl ?_
                        refine N_getK fa_Mod_130 sk_116 rfl d_Mod_readLine_133 o342K ?_
                        refine V_iconst 3 d_Mod_readLine_136 (by decide) ?_
                        refine V_icmp_ne 144 o342E tc_3 d_Mod_readLine_137 (by decide) (fun c364 => ?_) (fun c364 => ?_)
                        ·
                          have g365 := x_cS_s b (x_en b (x_en b p0))
                          refine V_iconst 0 d_Mod_readLine_144 (by decide) ?_
                          refine V_iconst 2 d_Mod_readLine_145 (by decide) ?_
                          refine N_callVV [.int 0, .int 2] [] cv_Mod_144 sk_116 rfl d_Mod_readLine_146 rfl (Nat.le_of_ble_eq_true rfl) (by decide) (by decide) (c_Mod_needsX h336 hI338 0 0 tc_0 2 2 tc_2 o341 o341Z o341E o341K o344 o344Z o344E o344K o345 o345Z o345E o345K) (fun h367 p368 => ?_)
                          obtain ⟨hI369, fh367, o371, o371Z, o371E, o371K, o372, o372Z, o372E, o372K, p368⟩ := p368
                          have f370 : fr S_Mod_readLineX h h367 := fr_call f339 fh367 rfl
                          replace p368 := (p368.resolve_left (fun q => by (first | decide +kernel | omega))).2.2
                          refine V_aload_n 0 d_Mod_readLine_149 rfl rfl ?_
                          refine N_callVV [] [] cv_Mod_152 sk_116 rfl d_Mod_readLine_150 rfl (Nat.le_of_ble_eq_true rfl) (by decide) (by decide) (c_Mod_nextX h367 b hI369 s sZ sE (kn_call fh367 (kn_call fh336 (kn_call fh318 (kn_nei eh309 (kn_call fh300 (kn_call fh255 (kn_call fh246 sK rfl) rfl) rfl) (by decide)) rfl) rfl) rfl) o340 o340Z o340E (kn_call fh367 o340K rfl) o341 o341Z o341E (kn_call fh367 o341K rfl) o342 o342Z o342E (kn_call fh367 o342K rfl) o343 o343Z o343E (kn_call fh367 o343K rfl) o371 o371Z o371E o371K o372 o372Z o372E o372K (TP_fr f370 (fun _ => rfl) hy0) (by (first | decide +kernel | omega))) (fun h374 p375 => ?_)
                          obtain ⟨hI376, fh374, o378, o378Z, o378E, o378K, o379, o379Z, o379E, o379K, o380, o380Z, o380E, o380K, o381, o381Z, o381E, o381K, o382, o382Z, o382E, o382K, o383, o383Z, o383E, o383K, p375⟩ := p375
                          have f377 : fr S_Mod_readLineX h h374 := fr_call f370 fh374 rfl
                          have g384 : 0 ≤ o378Z ∧ o378Z ≤ 160 := inv_at hI376 o378E o378K.symm rfl
                          have g385 : 0 ≤ o379Z ∧ o379Z ≤ 160 := inv_at hI376 o379E o379K.symm rfl
                          replace p375 := p375.resolve_right (fun q => by (first | decide +kernel | omega))
                          exact V_vret rfl d_Mod_readLine_153 ⟨rfl, ⟨hI376, f377, o378, o378Z, o378E, o378K, o379, o379Z, o379E, o379K, o380, o380Z, o380E, o380K, o381, o381Z, o381E, o381K, o382, o382Z, o382E, o382K, o383, o383Z, o383E, o383K, ⟨Or.inl ⟨by (first | decide +kernel | omega), (x_line_6 rfl hH hL).trans (hl.trans ((x_sq_y (by (first | decide +kernel | omega))).trans (pq (by (first | decide +kernel | omega)) (by (first | decide +kernel | omega)))))⟩, by (first | decide +kernel | omega), by (first | decide +kernel | omega), by (first | decide +kernel | omega)⟩⟩⟩
                        ·
                          refine V_iconst 1 d_Mod_readLine_140 (by decide) ?_
                          refine V_goto 145 d_Mod_readLine_141 (by decide) ?_
                          refine V_iconst 2 d_Mod_readLine_145 (by decide) ?_
                          refine N_callVV [.int 1, .int 2] [] cv_Mod_144 sk_116 rfl d_Mod_readLine_146 rfl (Nat.le_of_ble_eq_true rfl) (by decide) (by decide) (c_Mod_needsX h336 hI338 1 1 tc_1 2 2 tc_2 o341 o341Z o341E o341K o344 o344Z o344E o344K o345 o345Z o345E o345K) (fun h387 p388 => ?_)
                          obtain ⟨hI389, fh387, o391, o391Z, o391E, o391K, o392, o392Z, o392E, o392K, p388⟩ := p388
                          have f390 : fr S_Mod_readLineX h h387 := fr_call f339 fh387 rfl
                          have R393 : RM h387 (x_upT T 6 0) (x_up D 146 (x_vl b (x_en b p0))) := RM_fr fh387 rfl p337R
                          replace p388 := (p388.resolve_right (fun q => by (first | decide +kernel | omega))).2
                          have hS9 : x_cS b (x_en b (x_en b p0)) = 0 := cS_of (by (first | decide +kernel | omega))
                          have hmo := x_en_ge b (x_en b p0)
                          refine V_aload_n 0 d_Mod_readLine_149 rfl rfl ?_
                          refine N_callVV [] [] cv_Mod_152 sk_116 rfl d_Mod_readLine_150 rfl (Nat.le_of_ble_eq_true rfl) (by decide) (by decide) (c_Mod_nextX h387 b hI389 s sZ sE (kn_call fh387 (kn_call fh336 (kn_call fh318 (kn_nei eh309 (kn_call fh300 (kn_call fh255 (kn_call fh246 sK rfl) rfl) rfl) (by decide)) rfl) rfl) rfl) o340 o340Z o340E (kn_call fh387 o340K rfl) o341 o341Z o341E (kn_call fh387 o341K rfl) o342 o342Z o342E (kn_call fh387 o342K rfl) o343 o343Z o343E (kn_call fh387 o343K rfl) o391 o391Z o391E o391K o392 o392Z o392E o392K (TP_fr f390 (fun _ => rfl) hy0) (by (first | decide +kernel | omega))) (fun h395 p396 => ?_)
                          obtain ⟨hI397, fh395, o399, o399Z, o399E, o399K, o400, o400Z, o400E, o400K, o401, o401Z, o401E, o401K, o402, o402Z, o402E, o402K, o403, o403Z, o403E, o403K, o404, o404Z, o404E, o404K, p396⟩ := p396
                          have f398 : fr S_Mod_readLineX h h395 := fr_call f390 fh395 rfl
                          have R405 : RM h395 (x_upT T 6 0) (x_up D 146 (x_vl b (x_en b p0))) := RM_fr fh395 rfl R393
                          have g406 : 0 ≤ o399Z ∧ o399Z ≤ 160 := inv_at hI397 o399E o399K.symm rfl
                          have g407 : 0 ≤ o400Z ∧ o400Z ≤ 160 := inv_at hI397 o400E o400K.symm rfl
                          replace p396 := p396.resolve_left (fun q => by (first | decide +kernel | omega))
                          exact V_vret rfl d_Mod_readLine_153 ⟨rfl, ⟨hI397, f398, o399, o399Z, o399E, o399K, o400, o400Z, o400E, o400K, o401, o401Z, o401E, o401K, o402, o402Z, o402E, o402K, o403, o403Z, o403E, o403K, o404, o404Z, o404E, o404K, ⟨Or.inr ⟨x_en b (x_en b (x_en b p0)), (x_line_6 rfl hH hL).trans (hl.trans (x_sq_n (by (first | decide +kernel | omega)))), by (first | decide +kernel | omega), by (first | decide +kernel | omega), (by rw [x_T_6 T (u := x_en b p0) rfl hL, x_D_6 D (u := x_en b p0) rfl hL]; exact R405), nx_e p396 (by (first | decide +kernel | omega))⟩, by (first | decide +kernel | omega), by (first | decide +kernel | omega), by (first | decide +kernel | omega)⟩⟩⟩
                  ·
                    exact absurd c334 (by (first | decide +kernel | omega))
        ·
          exact absurd c253 (by decide)
    ·
      obtain rfl : z41 = 2 := (ti_eq z41E tc_2).mpr c44
      subst c44
      have hL : x_li b p0 = 7 := by (first | decide +kernel | omega)
      clear p43
      refine V_aload_n 0 d_Mod_readLine_18 rfl rfl ?_
      refine V_iload_n 1 d_Mod_readLine_19 rfl rfl ?_
      refine V_bipush (-4) d_Mod_readLine_20 (by decide) ?_
      refine V_icmp_eq 29 tc_2 tc_m4 d_Mod_readLine_22 (by decide) (fun c408 => ?_) (fun c408 => ?_)
      ·
        exact absurd c408 (by decide)
      ·
        refine V_iconst 1 d_Mod_readLine_25 (by decide) ?_
        refine V_goto 30 d_Mod_readLine_26 (by decide) ?_
        refine V_iconst 2 d_Mod_readLine_30 (by decide) ?_
        refine N_callVV [.int 1, .int 2] [] cv_Mod_144 sk_116 rfl d_Mod_readLine_31 rfl (Nat.le_of_ble_eq_true rfl) (by decide) (by decide) (c_Mod_needsX h hI 1 1 tc_1 2 2 tc_2 g gZ gE gK w wZ wE wK a aZ aE aK) (fun h410 p411 => ?_)
        obtain ⟨hI412, fh410, o414, o414Z, o414E, o414K, o415, o415Z, o415E, o415K, p411⟩ := p411
        have f413 : fr S_Mod_readLineX h h410 := fr_call f0 fh410 rfl
        have R416 : RM h410 T D := RM_fr fh410 rfl hy3
        replace p411 := (p411.resolve_right (fun q => by (first | decide +kernel | omega))).2
        refine V_aload_n 0 d_Mod_readLine_34 rfl rfl ?_
        refine V_iload_n 1 d_Mod_readLine_35 rfl rfl ?_
        refine V_bipush 9 d_Mod_readLine_36 (by decide) ?_
        refine V_icmp_ne 53 tc_2 tc_9 d_Mod_readLine_38 (by decide) (fun c417 => ?_) (fun c417 => ?_)
        ·
          refine V_iconst 1 d_Mod_readLine_53 (by decide) ?_
          refine V_goto 58 d_Mod_readLine_54 (by decide) ?_
          refine V_iconst 5 d_Mod_readLine_58 (by decide) ?_
          refine N_callVV [.int 1, .int 5] [] cv_Mod_144 sk_116 rfl d_Mod_readLine_59 rfl (Nat.le_of_ble_eq_true rfl) (by decide) (by decide) (c_Mod_needsX h410 hI412 1 1 tc_1 5 5 tc_5 g gZ gE (kn_call fh410 gK rfl) o414 o414Z o414E o414K o415 o415Z o415E o415K) (fun h419 p420 => ?_)
          obtain ⟨hI421, fh419, o423, o423Z, o423E, o423K, o424, o424Z, o424E, o424K, p420⟩ := p420
          have f422 : fr S_Mod_readLineX h h419 := fr_call f413 fh419 rfl
          have R425 : RM h419 T D := RM_fr fh419 rfl R416
          replace p420 := (p420.resolve_right (fun q => by (first | decide +kernel | omega))).2
          refine V_aload_n 0 d_Mod_readLine_62 rfl rfl ?_
          refine N_getK fa_Mod_102 sk_116 rfl d_Mod_readLine_63 o423K ?_
          refine V_if_ne 107 o423E d_Mod_readLine_66 (by decide) (fun c426 => ?_) (fun c426 => ?_)
          ·
            exact absurd c426 (by (first | decide +kernel | omega))
          ·
            refine V_iload_n 1 d_Mod_readLine_69 rfl rfl ?_
            refine V_iconst 3 d_Mod_readLine_70 (by decide) ?_
            refine V_icmp_gt 107 tc_2 tc_3 d_Mod_readLine_71 (by decide) (fun c427 => ?_) (fun c427 => ?_)
            ·
              exact absurd c427 (by decide)
            ·
              refine V_aload_n 0 d_Mod_readLine_74 rfl rfl ?_
              refine V_aload_n 0 d_Mod_readLine_75 rfl rfl ?_
              refine N_getK fa_Mod_75 sk_116 rfl d_Mod_readLine_76 (kn_call fh419 (kn_call fh410 oK rfl) rfl) ?_
              refine V_iload_n 1 d_Mod_readLine_79 rfl rfl ?_
              refine N_ishr d_Mod_readLine_80 (fun z428 z428Z z428E z428e => ?_)
              refine V_iconst 1 d_Mod_readLine_81 (by decide) ?_
              refine N_iand d_Mod_readLine_82 (fun z429 z429Z z429E z429e => ?_)
              have g430 : z429Z = x_told T 2 := x_bt_of (RM_told R425 (kn_call fh419 (kn_call fh410 oK rfl) rfl)) (by (first | decide +kernel | omega)) (by (first | decide +kernel | omega)) tc_2 z429E (by assumption) (by assumption)
              have g431 : x_told T 2 = T 7 0 := by simp [x_told]
              refine V_if_ne 90 z429E d_Mod_readLine_83 (by decide) (fun c432 => ?_) (fun c432 => ?_)
              ·
                refine V_iconst 0 d_Mod_readLine_90 (by decide) ?_
                refine V_iconst 4 d_Mod_readLine_91 (by decide) ?_
                refine N_callVV [.int 0, .int 4] [] cv_Mod_144 sk_116 rfl d_Mod_readLine_92 rfl (Nat.le_of_ble_eq_true rfl) (by decide) (by decide) (c_Mod_needsX h419 hI421 0 0 tc_0 4 4 tc_4 g gZ gE (kn_call fh419 (kn_call fh410 gK rfl) rfl) o423 o423Z o423E o423K o424 o424Z o424E o424K) (fun h434 p435 => ?_)
                obtain ⟨hI436, fh434, o438, o438Z, o438E, o438K, o439, o439Z, o439E, o439K, p435⟩ := p435
                have f437 : fr S_Mod_readLineX h h434 := fr_call f422 fh434 rfl
                replace p435 := (p435.resolve_left (fun q => by (first | decide +kernel | omega))).2.2
                refine V_aload_n 0 d_Mod_readLine_95 rfl rfl ?_
                refine V_dup d_Mod_readLine_96 rfl ?_
                refine N_getK fa_Mod_75 sk_116 rfl d_Mod_readLine_97 (kn_call fh434 (kn_call fh419 (kn_call fh410 oK rfl) rfl) rfl) ?_
                refine V_iconst 1 d_Mod_readLine_100 (by decide) ?_
                refine V_iload_n 1 d_Mod_readLine_101 rfl rfl ?_
                refine N_ishl d_Mod_readLine_102 (fun z440 z440Z z440E z440e => ?_)
                refine N_ior d_Mod_readLine_103 (fun z441 z441Z z441E z441e => ?_)
                refine N_putI fp_Mod_75 sk_116 rfl d_Mod_readLine_104 (fun h442 eh442 => ?_)
                have hI443 : Inv h442 := inv_full hI436 eh442 rfl
                have f444 : fr S_Mod_readLineX h h442 := fr_put f437 eh442 rfl
                have g445 : x_fr b pZ = x_fr b (x_en b p0) := congrArg (x_fr b) (by (first | decide +kernel | omega))
                have g446 : x_kd b pZ = x_kd b (x_en b p0) := congrArg (x_kd b) (by (first | decide +kernel | omega))
                have g447 : x_en b pZ = x_en b (x_en b p0) := congrArg (x_en b) (by (first | decide +kernel | omega))
                have g448 : x_vl b pZ = x_vl b (x_en b p0) := congrArg (x_vl b) (by (first | decide +kernel | omega))
                refine V_aload_n 0 d_Mod_readLine_107 rfl rfl ?_
                refine N_callVV [] [] cv_Mod_152 sk_116 rfl d_Mod_readLine_108 rfl (Nat.le_of_ble_eq_true rfl) (by decide) (by decide) (c_Mod_nextX h442 b hI443 s sZ sE (kn_nei eh442 (kn_call fh434 (kn_call fh419 (kn_call fh410 sK rfl) rfl) rfl) (by decide)) p pZ pE (kn_nei eh442 (kn_call fh434 (kn_call fh419 (kn_call fh410 pK rfl) rfl) rfl) (by decide)) g gZ gE (kn_nei eh442 (kn_call fh434 (kn_call fh419 (kn_call fh410 gK rfl) rfl) rfl) (by decide)) k kZ kE (kn_nei eh442 (kn_call fh434 (kn_call fh419 (kn_call fh410 kK rfl) rfl) rfl) (by decide)) v vZ vE (kn_nei eh442 (kn_call fh434 (kn_call fh419 (kn_call fh410 vK rfl) rfl) rfl) (by decide)) o438 o438Z o438E (kn_nei eh442 o438K (by decide)) o439 o439Z o439E (kn_nei eh442 o439K (by decide)) (TP_fr f444 (fun _ => rfl) hy0) (by (first | decide +kernel | omega))) (fun h450 p451 => ?_)
                obtain ⟨hI452, fh450, o454, o454Z, o454E, o454K, o455, o455Z, o455E, o455K, o456, o456Z, o456E, o456K, o457, o457Z, o457E, o457K, o458, o458Z, o458E, o458K, o459, o459Z, o459E, o459K, p451⟩ := p451
                have f453 : fr S_Mod_readLineX h h450 := fr_call f444 fh450 rfl
                have g460 : 0 ≤ o454Z ∧ o454Z ≤ 160 := inv_at hI452 o454E o454K.symm rfl
                have g461 : 0 ≤ o455Z ∧ o455Z ≤ 160 := inv_at hI452 o455E o455K.symm rfl
                replace p451 := p451.resolve_right (fun q => by (first | decide +kernel | omega))
                refine V_aload_n 0 d_Mod_readLine_111 rfl rfl ?_
                refine N_getK fa_Mod_102 sk_116 rfl d_Mod_readLine_112 o458K ?_
                refine V_if_le 119 o458E d_Mod_readLine_115 (by decide) (fun c462 => ?_) (fun c462 => ?_)
                ·
                  exact absurd c462 (by (first | decide +kernel | omega))
                ·
                  exact V_vret rfl d_Mod_readLine_118 ⟨rfl, ⟨hI452, f453, o454, o454Z, o454E, o454K, o455, o455Z, o455E, o455K, o456, o456Z, o456E, o456K, o457, o457Z, o457E, o457K, o458, o458Z, o458E, o458K, o459, o459Z, o459E, o459K, ⟨Or.inl ⟨by (first | decide +kernel | omega), (by have hc9 : x_cH b T (D 86) p0 = 4 := cH_4 (by (first | decide +kernel | omega)) (by (first | decide +kernel | omega)) (by rw [hL]; omega); exact (x_line_H (by rw [hc9]; decide)).trans (pq (by rw [hc9]; omega) (by (first | decide +kernel | omega))))⟩, by (first | decide +kernel | omega), by (first | decide +kernel | omega), by (first | decide +kernel | omega)⟩⟩⟩
              ·
                refine V_iconst 1 d_Mod_readLine_86 (by decide) ?_
                refine V_goto 91 d_Mod_readLine_87 (by decide) ?_
                refine V_iconst 4 d_Mod_readLine_91 (by decide) ?_
                refine N_callVV [.int 1, .int 4] [] cv_Mod_144 sk_116 rfl d_Mod_readLine_92 rfl (Nat.le_of_ble_eq_true rfl) (by decide) (by decide) (c_Mod_needsX h419 hI421 1 1 tc_1 4 4 tc_4 g gZ gE (kn_call fh419 (kn_call fh410 gK rfl) rfl) o423 o423Z o423E o423K o424 o424Z o424E o424K) (fun h464 p465 => ?_)
                obtain ⟨hI466, fh464, o468, o468Z, o468E, o468K, o469, o469Z, o469E, o469K, p465⟩ := p465
                have f467 : fr S_Mod_readLineX h h464 := fr_call f422 fh464 rfl
                have R470 : RM h464 T D := RM_fr fh464 rfl R425
                replace p465 := (p465.resolve_right (fun q => by (first | decide +kernel | omega))).2
                refine V_aload_n 0 d_Mod_readLine_95 rfl rfl ?_
                refine V_dup d_Mod_readLine_96 rfl ?_
                refine N_getK fa_Mod_75 sk_116 rfl d_Mod_readLine_97 (kn_call fh464 (kn_call fh419 (kn_call fh410 oK rfl) rfl) rfl) ?_
                refine V_iconst 1 d_Mod_readLine_100 (by decide) ?_
                refine V_iload_n 1 d_Mod_readLine_101 rfl rfl ?_
                refine N_ishl d_Mod_readLine_102 (fun z471 z471Z z471E z471e => ?_)
                refine N_ior d_Mod_readLine_103 (fun z472 z472Z z472E z472e => ?_)
                refine N_putI fp_Mod_75 sk_116 rfl d_Mod_readLine_104 (fun h473 eh473 => ?_)
                have hI474 : Inv h473 := inv_full hI466 eh473 rfl
                have f475 : fr S_Mod_readLineX h h473 := fr_put f467 eh473 rfl
                have R476 : RM h473 (x_upT T 7 0) D := RM_once R470 eh473 (kn_call fh464 (kn_call fh419 (kn_call fh410 oK rfl) rfl) rfl) tc_2 (by assumption) (by assumption) (by decide)
                have g477 : x_fr b pZ = x_fr b (x_en b p0) := congrArg (x_fr b) (by (first | decide +kernel | omega))
                have g478 : x_kd b pZ = x_kd b (x_en b p0) := congrArg (x_kd b) (by (first | decide +kernel | omega))
                have g479 : x_en b pZ = x_en b (x_en b p0) := congrArg (x_en b) (by (first | decide +kernel | omega))
                have g480 : x_vl b pZ = x_vl b (x_en b p0) := congrArg (x_vl b) (by (first | decide +kernel | omega))
                refine V_aload_n 0 d_Mod_readLine_107 rfl rfl ?_
                refine N_callVV [] [] cv_Mod_152 sk_116 rfl d_Mod_readLine_108 rfl (Nat.le_of_ble_eq_true rfl) (by decide) (by decide) (c_Mod_nextX h473 b hI474 s sZ sE (kn_nei eh473 (kn_call fh464 (kn_call fh419 (kn_call fh410 sK rfl) rfl) rfl) (by decide)) p pZ pE (kn_nei eh473 (kn_call fh464 (kn_call fh419 (kn_call fh410 pK rfl) rfl) rfl) (by decide)) g gZ gE (kn_nei eh473 (kn_call fh464 (kn_call fh419 (kn_call fh410 gK rfl) rfl) rfl) (by decide)) k kZ kE (kn_nei eh473 (kn_call fh464 (kn_call fh419 (kn_call fh410 kK rfl) rfl) rfl) (by decide)) v vZ vE (kn_nei eh473 (kn_call fh464 (kn_call fh419 (kn_call fh410 vK rfl) rfl) rfl) (by decide)) o468 o468Z o468E (kn_nei eh473 o468K (by decide)) o469 o469Z o469E (kn_nei eh473 o469K (by decide)) (TP_fr f475 (fun _ => rfl) hy0) (by (first | decide +kernel | omega))) (fun h482 p483 => ?_)
                obtain ⟨hI484, fh482, o486, o486Z, o486E, o486K, o487, o487Z, o487E, o487K, o488, o488Z, o488E, o488K, o489, o489Z, o489E, o489K, o490, o490Z, o490E, o490K, o491, o491Z, o491E, o491K, p483⟩ := p483
                have f485 : fr S_Mod_readLineX h h482 := fr_call f475 fh482 rfl
                have R492 : RM h482 (x_upT T 7 0) D := RM_fr fh482 rfl R476
                have g493 : 0 ≤ o486Z ∧ o486Z ≤ 160 := inv_at hI484 o486E o486K.symm rfl
                have g494 : 0 ≤ o487Z ∧ o487Z ≤ 160 := inv_at hI484 o487E o487K.symm rfl
                rcases (dj2 _ : o490Z ≠ 0 ∨ o490Z = 0) with c495 | c495
                ·
                  replace p483 := nx_1 (p483.resolve_left (fun q => by (first | decide +kernel | omega))) c495
                  have hH : x_cH b T (D 86) p0 = 0 := cH_0 (by (first | decide +kernel | omega)) (by (first | decide +kernel | omega)) (by rw [hL]; omega) (by (first | decide +kernel | omega))
                  have g496 := x_cN_s b (x_en b p0) 1 99
                  refine V_aload_n 0 d_Mod_readLine_111 rfl rfl ?_
                  refine N_getK fa_Mod_102 sk_116 rfl d_Mod_readLine_112 o490K ?_
                  refine V_if_le 119 o490E d_Mod_readLine_115 (by decide) (fun c497 => ?_) (fun c497 => ?_)
                  ·
                    exact absurd c497 (by (first | decide +kernel | omega))
                  ·
                    exact V_vret rfl d_Mod_readLine_118 ⟨rfl, ⟨hI484, f485, o486, o486Z, o486E, o486K, o487, o487Z, o487E, o487K, o488, o488Z, o488E, o488K, o489, o489Z, o489E, o489K, o490, o490Z, o490E, o490K, o491, o491Z, o491E, o491K, ⟨Or.inl ⟨by (first | decide +kernel | omega), (x_line_7 rfl hH hL).trans ((show x_l7 b T (x_en b p0) = (x_cN b (x_en b p0) 1 99, x_fr b (x_en b p0)) from by unfold x_l7; rw [x_sq_y (c := x_cN b (x_en b p0) 1 99) (by (first | decide +kernel | omega))]).trans (pq (by (first | decide +kernel | omega)) (by (first | decide +kernel | omega))))⟩, by (first | decide +kernel | omega), by (first | decide +kernel | omega), by (first | decide +kernel | omega)⟩⟩⟩
                ·
                  replace p483 := nx_0 (p483.resolve_left (fun q => by (first | decide +kernel | omega))) c495
                  have hH : x_cH b T (D 86) p0 = 0 := cH_0 (by (first | decide +kernel | omega)) (by (first | decide +kernel | omega)) (by rw [hL]; omega) (by (first | decide +kernel | omega))
                  refine V_aload_n 0 d_Mod_readLine_111 rfl rfl ?_
                  refine N_getK fa_Mod_102 sk_116 rfl d_Mod_readLine_112 o490K ?_
                  refine V_if_le 119 o490E d_Mod_readLine_115 (by decide) (fun c498 => ?_) (fun c498 => ?_)
                  ·
                    refine V_aload_n 0 d_Mod_readLine_119 rfl rfl ?_
                    refine V_iload_n 1 d_Mod_readLine_120 rfl rfl ?_
                    refine N_callVV [.int 2] [] cv_Mod_177 sk_116 rfl d_Mod_readLine_121 rfl (Nat.le_of_ble_eq_true rfl) (by decide) (by decide) (c_Mod_readLineOfX_2 h482 b (x_upT T 7 0) D (x_en b p0) hI484 s sZ sE (kn_call fh482 (kn_nei eh473 (kn_call fh464 (kn_call fh419 (kn_call fh410 sK rfl) rfl) rfl) (by decide)) rfl) o486 o486Z o486E o486K o487 o487Z o487E o487K o488 o488Z o488E o488K o489 o489Z o489E o489K o490 o490Z o490E o490K o491 o491Z o491E o491K (TP_fr f485 (fun _ => rfl) hy0) (by (first | decide +kernel | omega)) (lx_of p483 (by (first | decide +kernel | omega))) R492) (fun h500 p501 => ?_)
                    obtain ⟨hI502, fh500, o504, o504Z, o504E, o504K, o505, o505Z, o505E, o505K, o506, o506Z, o506E, o506K, o507, o507Z, o507E, o507K, o508, o508Z, o508E, o508K, o509, o509Z, o509E, o509K, p501⟩ := p501
                    have f503 : fr S_Mod_readLineX h h500 := fr_call f485 fh500 rfl
                    have g510 : 0 ≤ o504Z ∧ o504Z ≤ 160 := inv_at hI502 o504E o504K.symm rfl
                    have g511 : 0 ≤ o505Z ∧ o505Z ≤ 160 := inv_at hI502 o505E o505K.symm rfl
                    rcases (dj2 _ : o508Z ≠ 0 ∨ o508Z = 0) with c512 | c512
                    ·
                      obtain ⟨hq0, hq⟩ := p501.1.resolve_right (fun q => absurd q.1 c512)
                      replace p501 := p501.2
                      refine V_aload_n 0 d_Mod_readLine_124 rfl rfl ?_
                      refine N_getK fa_Mod_102 sk_116 rfl d_Mod_readLine_125 o508K ?_
                      refine V_if_ne 149 o508E d_Mod_readLine_128 (by decide) (fun c513 => ?_) (fun c513 => ?_)
                      ·
                        refine V_aload_n 0 d_Mod_readLine_149 rfl rfl ?_
                        refine N_callVV [] [] cv_Mod_152 sk_116 rfl d_Mod_readLine_150 rfl (Nat.le_of_ble_eq_true rfl) (by decide) (by decide) (c_Mod_nextX h500 b hI502 s sZ sE (kn_call fh500 (kn_call fh482 (kn_nei eh473 (kn_call fh464 (kn_call fh419 (kn_call fh410 sK rfl) rfl) rfl) (by decide)) rfl) rfl) o504 o504Z o504E o504K o505 o505Z o505E o505K o506 o506Z o506E o506K o507 o507Z o507E o507K o508 o508Z o508E o508K o509 o509Z o509E o509K (TP_fr f503 (fun _ => rfl) hy0) (by (first | decide +kernel | omega))) (fun h515 p516 => ?_)
                        obtain ⟨hI517, fh515, o519, o519Z, o519E, o519K, o520, o520Z, o520E, o520K, o521, o521Z, o521E, o521K, o522, o522Z, o522E, o522K, o523, o523Z, o523E, o523K, o524, o524Z, o524E, o524K, p516⟩ := p516
                        have f518 : fr S_Mod_readLineX h h515 := fr_call f503 fh515 rfl
                        have g525 : 0 ≤ o519Z ∧ o519Z ≤ 160 := inv_at hI517 o519E o519K.symm rfl
                        have g526 : 0 ≤ o520Z ∧ o520Z ≤ 160 := inv_at hI517 o520E o520K.symm rfl
                        replace p516 := p516.resolve_right (fun q => by (first | decide +kernel | omega))
                        exact V_vret rfl d_Mod_readLine_153 ⟨rfl, ⟨hI517, f518, o519, o519Z, o519E, o519K, o520, o520Z, o520E, o520K, o521, o521Z, o521E, o521K, o522, o522Z, o522E, o522K, o523, o523Z, o523E, o523K, o524, o524Z, o524E, o524K, ⟨Or.inl ⟨by (first | decide +kernel | omega), (x_line_7 rfl hH hL).trans (hq.trans (pq (by (first | decide +kernel | omega)) (by (first | decide +kernel | omega))))⟩, by (first | decide +kernel | omega), by (first | decide +kernel | omega), by (first | decide +kernel | omega)⟩⟩⟩
                      ·
                        exact absurd c513 (by (first | decide +kernel | omega))
                    ·
                      obtain ⟨p5010, hl, p501X, p501R⟩ := p501.1.resolve_left (fun q => absurd c512 q.1)
                      replace p501 := p501.2
                      refine V_aload_n 0 d_Mod_readLine_124 rfl rfl ?_
                      refine N_getK fa_Mod_102 sk_116 rfl d_Mod_readLine_125 o508K ?_
                      refine V_if_ne 149 o508E d_Mod_readLine_128 (by decide) (fun c527 => ?_) (fun c527 => ?_)
                      ·
                        exact absurd c527 (by (first | decide +kernel | omega))
                      ·
                        refine V_aload_n 0 d_Mod_readLine_131 rfl rfl ?_
                        refine V_aload_n 0 d_Mod_readLine_132 rfl rfl ?_
                        refine N_getK fa_Mod_130 sk_116 rfl d_Mod_readLine_133 o506K ?_
                        refine V_iconst 3 d_Mod_readLine_136 (by decide) ?_
                        refine V_icmp_ne 144 o506E tc_3 d_Mod_readLine_137 (by decide) (fun c528 => ?_) (fun c528 => ?_)
                        ·
                          have g529 := x_cS_s b (x_en b (x_en b p0))
                          refine V_iconst 0 d_Mod_readLine_144 (by decide) ?_
                          refine V_iconst 2 d_Mod_readLine_145 (by decide) ?_
                          refine N_callVV [.int 0, .int 2] [] cv_Mod_144 sk_116 rfl d_Mod_readLine_146 rfl (Nat.le_of_ble_eq_true rfl) (by decide) (by decide) (c_Mod_needsX h500 hI502 0 0 tc_0 2 2 tc_2 o505 o505Z o505E o505K o508 o508Z o508E o508K o509 o509Z o509E o509K) (fun h531 p532 => ?_)
                          obtain ⟨hI533, fh531, o535, o535Z, o535E, o535K, o536, o536Z, o536E, o536K, p532⟩ := p532
                          have f534 : fr S_Mod_readLineX h h531 := fr_call f503 fh531 rfl
                          replace p532 := (p532.resolve_left (fun q => by (first | decide +kernel | omega))).2.2
                          refine V_aload_n 0 d_Mod_readLine_149 rfl rfl ?_
                          refine N_callVV [] [] cv_Mod_152 sk_116 rfl d_Mod_readLine_150 rfl (Nat.le_of_ble_eq_true rfl) (by decide) (by decide) (c_Mod_nextX h531 b hI533 s sZ sE (kn_call fh531 (kn_call fh500 (kn_call fh482 (kn_nei eh473 (kn_call fh464 (kn_call fh419 (kn_call fh410 sK rfl) rfl) rfl) (by decide)) rfl) rfl) rfl) o504 o504Z o504E (kn_call fh531 o504K rfl) o505 o505Z o505E (kn_call fh531 o505K rfl) o506 o506Z o506E (kn_call fh531 o506K rfl) o507 o507Z o507E (kn_call fh531 o507K rfl) o535 o535Z o535E o535K o536 o536Z o536E o536K (TP_fr f534 (fun _ => rfl) hy0) (by (first | decide +kernel | omega))) (fun h538 p539 => ?_)
                          obtain ⟨hI540, fh538, o542, o542Z, o542E, o542K, o543, o543Z, o543E, o543K, o544, o544Z, o544E, o544K, o545, o545Z, o545E, o545K, o546, o546Z, o546E, o546K, o547, o547Z, o547E, o547K, p539⟩ := p539
                          have f541 : fr S_Mod_readLineX h h538 := fr_call f534 fh538 rfl
                          have g548 : 0 ≤ o542Z ∧ o542Z ≤ 160 := inv_at hI540 o542E o542K.symm rfl
                          have g549 : 0 ≤ o543Z ∧ o543Z ≤ 160 := inv_at hI540 o543E o543K.symm rfl
                          replace p539 := p539.resolve_right (fun q => by (first | decide +kernel | omega))
                          exact V_vret rfl d_Mod_readLine_153 ⟨rfl, ⟨hI540, f541, o542, o542Z, o542E, o542K, o543, o543Z, o543E, o543K, o544, o544Z, o544E, o544K, o545, o545Z, o545E, o545K, o546, o546Z, o546E, o546K, o547, o547Z, o547E, o547K, ⟨Or.inl ⟨by (first | decide +kernel | omega), (x_line_7 rfl hH hL).trans (hl.trans ((x_sq_y (by (first | decide +kernel | omega))).trans (pq (by (first | decide +kernel | omega)) (by (first | decide +kernel | omega)))))⟩, by (first | decide +kernel | omega), by (first | decide +kernel | omega), by (first | decide +kernel | omega)⟩⟩⟩
                        ·
                          refine V_iconst 1 d_Mod_readLine_140 (by decide) ?_
                          refine V_goto 145 d_Mod_readLine_141 (by decide) ?_
                          refine V_iconst 2 d_Mod_readLine_145 (by decide) ?_
                          refine N_callVV [.int 1, .int 2] [] cv_Mod_144 sk_116 rfl d_Mod_readLine_146 rfl (Nat.le_of_ble_eq_true rfl) (by decide) (by decide) (c_Mod_needsX h500 hI502 1 1 tc_1 2 2 tc_2 o505 o505Z o505E o505K o508 o508Z o508E o508K o509 o509Z o509E o509K) (fun h551 p552 => ?_)
                          obtain ⟨hI553, fh551, o555, o555Z, o555E, o555K, o556, o556Z, o556E, o556K, p552⟩ := p552
                          have f554 : fr S_Mod_readLineX h h551 := fr_call f503 fh551 rfl
                          have R557 : RM h551 (x_upT T 7 0) (x_up D 147 (x_vl b (x_en b p0))) := RM_fr fh551 rfl p501R
                          replace p552 := (p552.resolve_right (fun q => by (first | decide +kernel | omega))).2
                          have hS9 : x_cS b (x_en b (x_en b p0)) = 0 := cS_of (by (first | decide +kernel | omega))
                          have hmo := x_en_ge b (x_en b p0)
                          refine V_aload_n 0 d_Mod_readLine_149 rfl rfl ?_
                          refine N_callVV [] [] cv_Mod_152 sk_116 rfl d_Mod_readLine_150 rfl (Nat.le_of_ble_eq_true rfl) (by decide) (by decide) (c_Mod_nextX h551 b hI553 s sZ sE (kn_call fh551 (kn_call fh500 (kn_call fh482 (kn_nei eh473 (kn_call fh464 (kn_call fh419 (kn_call fh410 sK rfl) rfl) rfl) (by decide)) rfl) rfl) rfl) o504 o504Z o504E (kn_call fh551 o504K rfl) o505 o505Z o505E (kn_call fh551 o505K rfl) o506 o506Z o506E (kn_call fh551 o506K rfl) o507 o507Z o507E (kn_call fh551 o507K rfl) o555 o555Z o555E o555K o556 o556Z o556E o556K (TP_fr f554 (fun _ => rfl) hy0) (by (first | decide +kernel | omega))) (fun h559 p560 => ?_)
                          obtain ⟨hI561, fh559, o563, o563Z, o563E, o563K, o564, o564Z, o564E, o564K, o565, o565Z, o565E, o565K, o566, o566Z, o566E, o566K, o567, o567Z, o567E, o567K, o568, o568Z, o568E, o568K, p560⟩ := p560
                          have f562 : fr S_Mod_readLineX h h559 := fr_call f554 fh559 rfl
                          have R569 : RM h559 (x_upT T 7 0) (x_up D 147 (x_vl b (x_en b p0))) := RM_fr fh559 rfl R557
                          have g570 : 0 ≤ o563Z ∧ o563Z ≤ 160 := inv_at hI561 o563E o563K.symm rfl
                          have g571 : 0 ≤ o564Z ∧ o564Z ≤ 160 := inv_at hI561 o564E o564K.symm rfl
                          replace p560 := p560.resolve_left (fun q => by (first | decide +kernel | omega))
                          exact V_vret rfl d_Mod_readLine_153 ⟨rfl, ⟨hI561, f562, o563, o563Z, o563E, o563K, o564, o564Z, o564E, o564K, o565, o565Z, o565E, o565K, o566, o566Z, o566E, o566K, o567, o567Z, o567E, o567K, o568, o568Z, o568E, o568K, ⟨Or.inr ⟨x_en b (x_en b (x_en b p0)), (x_line_7 rfl hH hL).trans (hl.trans (x_sq_n (by (first | decide +kernel | omega)))), by (first | decide +kernel | omega), by (first | decide +kernel | omega), (by rw [x_T_7 T (u := x_en b p0) rfl hL, x_D_7 D (u := x_en b p0) rfl hL]; exact R569), nx_e p560 (by (first | decide +kernel | omega))⟩, by (first | decide +kernel | omega), by (first | decide +kernel | omega), by (first | decide +kernel | omega)⟩⟩⟩
                  ·
                    exact absurd c498 (by (first | decide +kernel | omega))
        ·
          exact absurd c417 (by decide)
    ·
      obtain rfl : z41 = 3 := (ti_eq z41E tc_3).mpr c44
      subst c44
      have hL : x_li b p0 = 8 := by (first | decide +kernel | omega)
      clear p43
      refine V_aload_n 0 d_Mod_readLine_18 rfl rfl ?_
      refine V_iload_n 1 d_Mod_readLine_19 rfl rfl ?_
      refine V_bipush (-4) d_Mod_readLine_20 (by decide) ?_
      refine V_icmp_eq 29 tc_3 tc_m4 d_Mod_readLine_22 (by decide) (fun c572 => ?_) (fun c572 => ?_)
      ·
        exact absurd c572 (by decide)
      ·
        refine V_iconst 1 d_Mod_readLine_25 (by decide) ?_
        refine V_goto 30 d_Mod_readLine_26 (by decide) ?_
        refine V_iconst 2 d_Mod_readLine_30 (by decide) ?_
        refine N_callVV [.int 1, .int 2] [] cv_Mod_144 sk_116 rfl d_Mod_readLine_31 rfl (Nat.le_of_ble_eq_true rfl) (by decide) (by decide) (c_Mod_needsX h hI 1 1 tc_1 2 2 tc_2 g gZ gE gK w wZ wE wK a aZ aE aK) (fun h574 p575 => ?_)
        obtain ⟨hI576, fh574, o578, o578Z, o578E, o578K, o579, o579Z, o579E, o579K, p575⟩ := p575
        have f577 : fr S_Mod_readLineX h h574 := fr_call f0 fh574 rfl
        have R580 : RM h574 T D := RM_fr fh574 rfl hy3
        replace p575 := (p575.resolve_right (fun q => by (first | decide +kernel | omega))).2
        refine V_aload_n 0 d_Mod_readLine_34 rfl rfl ?_
        refine V_iload_n 1 d_Mod_readLine_35 rfl rfl ?_
        refine V_bipush 9 d_Mod_readLine_36 (by decide) ?_
        refine V_icmp_ne 53 tc_3 tc_9 d_Mod_readLine_38 (by decide) (fun c581 => ?_) (fun c581 => ?_)
        ·
          refine V_iconst 1 d_Mod_readLine_53 (by decide) ?_
          refine V_goto 58 d_Mod_readLine_54 (by decide) ?_
          refine V_iconst 5 d_Mod_readLine_58 (by decide) ?_
          refine N_callVV [.int 1, .int 5] [] cv_Mod_144 sk_116 rfl d_Mod_readLine_59 rfl (Nat.le_of_ble_eq_true rfl) (by decide) (by decide) (c_Mod_needsX h574 hI576 1 1 tc_1 5 5 tc_5 g gZ gE (kn_call fh574 gK rfl) o578 o578Z o578E o578K o579 o579Z o579E o579K) (fun h583 p584 => ?_)
          obtain ⟨hI585, fh583, o587, o587Z, o587E, o587K, o588, o588Z, o588E, o588K, p584⟩ := p584
          have f586 : fr S_Mod_readLineX h h583 := fr_call f577 fh583 rfl
          have R589 : RM h583 T D := RM_fr fh583 rfl R580
          replace p584 := (p584.resolve_right (fun q => by (first | decide +kernel | omega))).2
          refine V_aload_n 0 d_Mod_readLine_62 rfl rfl ?_
          refine N_getK fa_Mod_102 sk_116 rfl d_Mod_readLine_63 o587K ?_
          refine V_if_ne 107 o587E d_Mod_readLine_66 (by decide) (fun c590 => ?_) (fun c590 => ?_)
          ·
            exact absurd c590 (by (first | decide +kernel | omega))
          ·
            refine V_iload_n 1 d_Mod_readLine_69 rfl rfl ?_
            refine V_iconst 3 d_Mod_readLine_70 (by decide) ?_
            refine V_icmp_gt 107 tc_3 tc_3 d_Mod_readLine_71 (by decide) (fun c591 => ?_) (fun c591 => ?_)
            ·
              exact absurd c591 (by decide)
            ·
              refine V_aload_n 0 d_Mod_readLine_74 rfl rfl ?_
              refine V_aload_n 0 d_Mod_readLine_75 rfl rfl ?_
              refine N_getK fa_Mod_75 sk_116 rfl d_Mod_readLine_76 (kn_call fh583 (kn_call fh574 oK rfl) rfl) ?_
              refine V_iload_n 1 d_Mod_readLine_79 rfl rfl ?_
              refine N_ishr d_Mod_readLine_80 (fun z592 z592Z z592E z592e => ?_)
              refine V_iconst 1 d_Mod_readLine_81 (by decide) ?_
              refine N_iand d_Mod_readLine_82 (fun z593 z593Z z593E z593e => ?_)
              have g594 : z593Z = x_told T 3 := x_bt_of (RM_told R589 (kn_call fh583 (kn_call fh574 oK rfl) rfl)) (by (first | decide +kernel | omega)) (by (first | decide +kernel | omega)) tc_3 z593E (by assumption) (by assumption)
              have g595 : x_told T 3 = T 8 0 := by simp [x_told]
              refine V_if_ne 90 z593E d_Mod_readLine_83 (by decide) (fun c596 => ?_) (fun c596 => ?_)
              ·
                refine V_iconst 0 d_Mod_readLine_90 (by decide) ?_
                refine V_iconst 4 d_Mod_readLine_91 (by decide) ?_
                refine N_callVV [.int 0, .int 4] [] cv_Mod_144 sk_116 rfl d_Mod_readLine_92 rfl (Nat.le_of_ble_eq_true rfl) (by decide) (by decide) (c_Mod_needsX h583 hI585 0 0 tc_0 4 4 tc_4 g gZ gE (kn_call fh583 (kn_call fh574 gK rfl) rfl) o587 o587Z o587E o587K o588 o588Z o588E o588K) (fun h598 p599 => ?_)
                obtain ⟨hI600, fh598, o602, o602Z, o602E, o602K, o603, o603Z, o603E, o603K, p599⟩ := p599
                have f601 : fr S_Mod_readLineX h h598 := fr_call f586 fh598 rfl
                replace p599 := (p599.resolve_left (fun q => by (first | decide +kernel | omega))).2.2
                refine V_aload_n 0 d_Mod_readLine_95 rfl rfl ?_
                refine V_dup d_Mod_readLine_96 rfl ?_
                refine N_getK fa_Mod_75 sk_116 rfl d_Mod_readLine_97 (kn_call fh598 (kn_call fh583 (kn_call fh574 oK rfl) rfl) rfl) ?_
                refine V_iconst 1 d_Mod_readLine_100 (by decide) ?_
                refine V_iload_n 1 d_Mod_readLine_101 rfl rfl ?_
                refine N_ishl d_Mod_readLine_102 (fun z604 z604Z z604E z604e => ?_)
                refine N_ior d_Mod_readLine_103 (fun z605 z605Z z605E z605e => ?_)
                refine N_putI fp_Mod_75 sk_116 rfl d_Mod_readLine_104 (fun h606 eh606 => ?_)
                have hI607 : Inv h606 := inv_full hI600 eh606 rfl
                have f608 : fr S_Mod_readLineX h h606 := fr_put f601 eh606 rfl
                have g609 : x_fr b pZ = x_fr b (x_en b p0) := congrArg (x_fr b) (by (first | decide +kernel | omega))
                have g610 : x_kd b pZ = x_kd b (x_en b p0) := congrArg (x_kd b) (by (first | decide +kernel | omega))
                have g611 : x_en b pZ = x_en b (x_en b p0) := congrArg (x_en b) (by (first | decide +kernel | omega))
                have g612 : x_vl b pZ = x_vl b (x_en b p0) := congrArg (x_vl b) (by (first | decide +kernel | omega))
                refine V_aload_n 0 d_Mod_readLine_107 rfl rfl ?_
                refine N_callVV [] [] cv_Mod_152 sk_116 rfl d_Mod_readLine_108 rfl (Nat.le_of_ble_eq_true rfl) (by decide) (by decide) (c_Mod_nextX h606 b hI607 s sZ sE (kn_nei eh606 (kn_call fh598 (kn_call fh583 (kn_call fh574 sK rfl) rfl) rfl) (by decide)) p pZ pE (kn_nei eh606 (kn_call fh598 (kn_call fh583 (kn_call fh574 pK rfl) rfl) rfl) (by decide)) g gZ gE (kn_nei eh606 (kn_call fh598 (kn_call fh583 (kn_call fh574 gK rfl) rfl) rfl) (by decide)) k kZ kE (kn_nei eh606 (kn_call fh598 (kn_call fh583 (kn_call fh574 kK rfl) rfl) rfl) (by decide)) v vZ vE (kn_nei eh606 (kn_call fh598 (kn_call fh583 (kn_call fh574 vK rfl) rfl) rfl) (by decide)) o602 o602Z o602E (kn_nei eh606 o602K (by decide)) o603 o603Z o603E (kn_nei eh606 o603K (by decide)) (TP_fr f608 (fun _ => rfl) hy0) (by (first | decide +kernel | omega))) (fun h614 p615 => ?_)
                obtain ⟨hI616, fh614, o618, o618Z, o618E, o618K, o619, o619Z, o619E, o619K, o620, o620Z, o620E, o620K, o621, o621Z, o621E, o621K, o622, o622Z, o622E, o622K, o623, o623Z, o623E, o623K, p615⟩ := p615
                have f617 : fr S_Mod_readLineX h h614 := fr_call f608 fh614 rfl
                have g624 : 0 ≤ o618Z ∧ o618Z ≤ 160 := inv_at hI616 o618E o618K.symm rfl
                have g625 : 0 ≤ o619Z ∧ o619Z ≤ 160 := inv_at hI616 o619E o619K.symm rfl
                replace p615 := p615.resolve_right (fun q => by (first | decide +kernel | omega))
                refine V_aload_n 0 d_Mod_readLine_111 rfl rfl ?_
                refine N_getK fa_Mod_102 sk_116 rfl d_Mod_readLine_112 o622K ?_
                refine V_if_le 119 o622E d_Mod_readLine_115 (by decide) (fun c626 => ?_) (fun c626 => ?_)
                ·
                  exact absurd c626 (by (first | decide +kernel | omega))
                ·
                  exact V_vret rfl d_Mod_readLine_118 ⟨rfl, ⟨hI616, f617, o618, o618Z, o618E, o618K, o619, o619Z, o619E, o619K, o620, o620Z, o620E, o620K, o621, o621Z, o621E, o621K, o622, o622Z, o622E, o622K, o623, o623Z, o623E, o623K, ⟨Or.inl ⟨by (first | decide +kernel | omega), (by have hc9 : x_cH b T (D 86) p0 = 4 := cH_4 (by (first | decide +kernel | omega)) (by (first | decide +kernel | omega)) (by rw [hL]; omega); exact (x_line_H (by rw [hc9]; decide)).trans (pq (by rw [hc9]; omega) (by (first | decide +kernel | omega))))⟩, by (first | decide +kernel | omega), by (first | decide +kernel | omega), by (first | decide +kernel | omega)⟩⟩⟩
              ·
                refine V_iconst 1 d_Mod_readLine_86 (by decide) ?_
                refine V_goto 91 d_Mod_readLine_87 (by decide) ?_
                refine V_iconst 4 d_Mod_readLine_91 (by decide) ?_
                refine N_callVV [.int 1, .int 4] [] cv_Mod_144 sk_116 rfl d_Mod_readLine_92 rfl (Nat.le_of_ble_eq_true rfl) (by decide) (by decide) (c_Mod_needsX h583 hI585 1 1 tc_1 4 4 tc_4 g gZ gE (kn_call fh583 (kn_call fh574 gK rfl) rfl) o587 o587Z o587E o587K o588 o588Z o588E o588K) (fun h628 p629 => ?_)
                obtain ⟨hI630, fh628, o632, o632Z, o632E, o632K, o633, o633Z, o633E, o633K, p629⟩ := p629
                have f631 : fr S_Mod_readLineX h h628 := fr_call f586 fh628 rfl
                have R634 : RM h628 T D := RM_fr fh628 rfl R589
                replace p629 := (p629.resolve_right (fun q => by (first | decide +kernel | omega))).2
                refine V_aload_n 0 d_Mod_readLine_95 rfl rfl ?_
                refine V_dup d_Mod_readLine_96 rfl ?_
                refine N_getK fa_Mod_75 sk_116 rfl d_Mod_readLine_97 (kn_call fh628 (kn_call fh583 (kn_call fh574 oK rfl) rfl) rfl) ?_
                refine V_iconst 1 d_Mod_readLine_100 (by decide) ?_
                refine V_iload_n 1 d_Mod_readLine_101 rfl rfl ?_
                refine N_ishl d_Mod_readLine_102 (fun z635 z635Z z635E z635e => ?_)
                refine N_ior d_Mod_readLine_103 (fun z636 z636Z z636E z636e => ?_)
                refine N_putI fp_Mod_75 sk_116 rfl d_Mod_readLine_104 (fun h637 eh637 => ?_)
                have hI638 : Inv h637 := inv_full hI630 eh637 rfl
                have f639 : fr S_Mod_readLineX h h637 := fr_put f631 eh637 rfl
                have R640 : RM h637 (x_upT T 8 0) D := RM_once R634 eh637 (kn_call fh628 (kn_call fh583 (kn_call fh574 oK rfl) rfl) rfl) tc_3 (by assumption) (by assumption) (by decide)
                have g641 : x_fr b pZ = x_fr b (x_en b p0) := congrArg (x_fr b) (by (first | decide +kernel | omega))
                have g642 : x_kd b pZ = x_kd b (x_en b p0) := congrArg (x_kd b) (by (first | decide +kernel | omega))
                have g643 : x_en b pZ = x_en b (x_en b p0) := congrArg (x_en b) (by (first | decide +kernel | omega))
                have g644 : x_vl b pZ = x_vl b (x_en b p0) := congrArg (x_vl b) (by (first | decide +kernel | omega))
                refine V_aload_n 0 d_Mod_readLine_107 rfl rfl ?_
                refine N_callVV [] [] cv_Mod_152 sk_116 rfl d_Mod_readLine_108 rfl (Nat.le_of_ble_eq_true rfl) (by decide) (by decide) (c_Mod_nextX h637 b hI638 s sZ sE (kn_nei eh637 (kn_call fh628 (kn_call fh583 (kn_call fh574 sK rfl) rfl) rfl) (by decide)) p pZ pE (kn_nei eh637 (kn_call fh628 (kn_call fh583 (kn_call fh574 pK rfl) rfl) rfl) (by decide)) g gZ gE (kn_nei eh637 (kn_call fh628 (kn_call fh583 (kn_call fh574 gK rfl) rfl) rfl) (by decide)) k kZ kE (kn_nei eh637 (kn_call fh628 (kn_call fh583 (kn_call fh574 kK rfl) rfl) rfl) (by decide)) v vZ vE (kn_nei eh637 (kn_call fh628 (kn_call fh583 (kn_call fh574 vK rfl) rfl) rfl) (by decide)) o632 o632Z o632E (kn_nei eh637 o632K (by decide)) o633 o633Z o633E (kn_nei eh637 o633K (by decide)) (TP_fr f639 (fun _ => rfl) hy0) (by (first | decide +kernel | omega))) (fun h646 p647 => ?_)
                obtain ⟨hI648, fh646, o650, o650Z, o650E, o650K, o651, o651Z, o651E, o651K, o652, o652Z, o652E, o652K, o653, o653Z, o653E, o653K, o654, o654Z, o654E, o654K, o655, o655Z, o655E, o655K, p647⟩ := p647
                have f649 : fr S_Mod_readLineX h h646 := fr_call f639 fh646 rfl
                have R656 : RM h646 (x_upT T 8 0) D := RM_fr fh646 rfl R640
                have g657 : 0 ≤ o650Z ∧ o650Z ≤ 160 := inv_at hI648 o650E o650K.symm rfl
                have g658 : 0 ≤ o651Z ∧ o651Z ≤ 160 := inv_at hI648 o651E o651K.symm rfl
                rcases (dj2 _ : o654Z ≠ 0 ∨ o654Z = 0) with c659 | c659
                ·
                  replace p647 := nx_1 (p647.resolve_left (fun q => by (first | decide +kernel | omega))) c659
                  have hH : x_cH b T (D 86) p0 = 0 := cH_0 (by (first | decide +kernel | omega)) (by (first | decide +kernel | omega)) (by rw [hL]; omega) (by (first | decide +kernel | omega))
                  have g660 := x_cK_s b (x_en b p0)
                  refine V_aload_n 0 d_Mod_readLine_111 rfl rfl ?_
                  refine N_getK fa_Mod_102 sk_116 rfl d_Mod_readLine_112 o654K ?_
                  refine V_if_le 119 o654E d_Mod_readLine_115 (by decide) (fun c661 => ?_) (fun c661 => ?_)
                  ·
                    exact absurd c661 (by (first | decide +kernel | omega))
                  ·
                    exact V_vret rfl d_Mod_readLine_118 ⟨rfl, ⟨hI648, f649, o650, o650Z, o650E, o650K, o651, o651Z, o651E, o651K, o652, o652Z, o652E, o652K, o653, o653Z, o653E, o653K, o654, o654Z, o654E, o654K, o655, o655Z, o655E, o655K, ⟨Or.inl ⟨by (first | decide +kernel | omega), (x_line_8 rfl hH hL).trans ((show x_l8 b T (x_en b p0) = (x_cK b (x_en b p0), x_fr b (x_en b p0)) from by unfold x_l8; rw [x_sq_y (c := x_cK b (x_en b p0)) (by (first | decide +kernel | omega))]).trans (pq (by (first | decide +kernel | omega)) (by (first | decide +kernel | omega))))⟩, by (first | decide +kernel | omega), by (first | decide +kernel | omega), by (first | decide +kernel | omega)⟩⟩⟩
                ·
                  replace p647 := nx_0 (p647.resolve_left (fun q => by (first | decide +kernel | omega))) c659
                  have hH : x_cH b T (D 86) p0 = 0 := cH_0 (by (first | decide +kernel | omega)) (by (first | decide +kernel | omega)) (by rw [hL]; omega) (by (first | decide +kernel | omega))
                  refine V_aload_n 0 d_Mod_readLine_111 rfl rfl ?_
                  refine N_getK fa_Mod_102 sk_116 rfl d_Mod_readLine_112 o654K ?_
                  refine V_if_le 119 o654E d_Mod_readLine_115 (by decide) (fun c662 => ?_) (fun c662 => ?_)
                  ·
                    refine V_aload_n 0 d_Mod_readLine_119 rfl rfl ?_
                    refine V_iload_n 1 d_Mod_readLine_120 rfl rfl ?_
                    refine N_callVV [.int 3] [] cv_Mod_177 sk_116 rfl d_Mod_readLine_121 rfl (Nat.le_of_ble_eq_true rfl) (by decide) (by decide) (c_Mod_readLineOfX_3 h646 b (x_upT T 8 0) D (x_en b p0) hI648 s sZ sE (kn_call fh646 (kn_nei eh637 (kn_call fh628 (kn_call fh583 (kn_call fh574 sK rfl) rfl) rfl) (by decide)) rfl) o650 o650Z o650E o650K o651 o651Z o651E o651K o652 o652Z o652E o652K o653 o653Z o653E o653K o654 o654Z o654E o654K o655 o655Z o655E o655K (TP_fr f649 (fun _ => rfl) hy0) (by (first | decide +kernel | omega)) (lx_of p647 (by (first | decide +kernel | omega))) R656) (fun h664 p665 => ?_)
                    obtain ⟨hI666, fh664, o668, o668Z, o668E, o668K, o669, o669Z, o669E, o669K, o670, o670Z, o670E, o670K, o671, o671Z, o671E, o671K, o672, o672Z, o672E, o672K, o673, o673Z, o673E, o673K, p665⟩ := p665
                    have f667 : fr S_Mod_readLineX h h664 := fr_call f649 fh664 rfl
                    have g674 : 0 ≤ o668Z ∧ o668Z ≤ 160 := inv_at hI666 o668E o668K.symm rfl
                    have g675 : 0 ≤ o669Z ∧ o669Z ≤ 160 := inv_at hI666 o669E o669K.symm rfl
                    rcases (dj2 _ : o672Z ≠ 0 ∨ o672Z = 0) with c676 | c676
                    ·
                      obtain ⟨hq0, hq⟩ := p665.1.resolve_right (fun q => absurd q.1 c676)
                      replace p665 := p665.2
                      refine V_aload_n 0 d_Mod_readLine_124 rfl rfl ?_
                      refine N_getK fa_Mod_102 sk_116 rfl d_Mod_readLine_125 o672K ?_
                      refine V_if_ne 149 o672E d_Mod_readLine_128 (by decide) (fun c677 => ?_) (fun c677 => ?_)
                      ·
                        refine V_aload_n 0 d_Mod_readLine_149 rfl rfl ?_
                        refine N_callVV [] [] cv_Mod_152 sk_116 rfl d_Mod_readLine_150 rfl (Nat.le_of_ble_eq_true rfl) (by decide) (by decide) (c_Mod_nextX h664 b hI666 s sZ sE (kn_call fh664 (kn_call fh646 (kn_nei eh637 (kn_call fh628 (kn_call fh583 (kn_call fh574 sK rfl) rfl) rfl) (by decide)) rfl) rfl) o668 o668Z o668E o668K o669 o669Z o669E o669K o670 o670Z o670E o670K o671 o671Z o671E o671K o672 o672Z o672E o672K o673 o673Z o673E o673K (TP_fr f667 (fun _ => rfl) hy0) (by (first | decide +kernel | omega))) (fun h679 p680 => ?_)
                        obtain ⟨hI681, fh679, o683, o683Z, o683E, o683K, o684, o684Z, o684E, o684K, o685, o685Z, o685E, o685K, o686, o686Z, o686E, o686K, o687, o687Z, o687E, o687K, o688, o688Z, o688E, o688K, p680⟩ := p680
                        have f682 : fr S_Mod_readLineX h h679 := fr_call f667 fh679 rfl
                        have g689 : 0 ≤ o683Z ∧ o683Z ≤ 160 := inv_at hI681 o683E o683K.symm rfl
                        have g690 : 0 ≤ o684Z ∧ o684Z ≤ 160 := inv_at hI681 o684E o684K.symm rfl
                        replace p680 := p680.resolve_right (fun q => by (first | decide +kernel | omega))
                        exact V_vret rfl d_Mod_readLine_153 ⟨rfl, ⟨hI681, f682, o683, o683Z, o683E, o683K, o684, o684Z, o684E, o684K, o685, o685Z, o685E, o685K, o686, o686Z, o686E, o686K, o687, o687Z, o687E, o687K, o688, o688Z, o688E, o688K, ⟨Or.inl ⟨by (first | decide +kernel | omega), (x_line_8 rfl hH hL).trans (hq.trans (pq (by (first | decide +kernel | omega)) (by (first | decide +kernel | omega))))⟩, by (first | decide +kernel | omega), by (first | decide +kernel | omega), by (first | decide +kernel | omega)⟩⟩⟩
                      ·
                        exact absurd c677 (by (first | decide +kernel | omega))
                    ·
                      obtain ⟨p6650, hl, p665X, p665R⟩ := p665.1.resolve_left (fun q => absurd c676 q.1)
                      replace p665 := p665.2
                      refine V_aload_n 0 d_Mod_readLine_124 rfl rfl ?_
                      refine N_getK fa_Mod_102 sk_116 rfl d_Mod_readLine_125 o672K ?_
                      refine V_if_ne 149 o672E d_Mod_readLine_128 (by decide) (fun c691 => ?_) (fun c691 => ?_)
                      ·
                        exact absurd c691 (by (first | decide +kernel | omega))
                      ·
                        refine V_aload_n 0 d_Mod_readLine_131 rfl rfl ?_
                        refine V_aload_n 0 d_Mod_readLine_132 rfl rfl ?_
                        refine N_getK fa_Mod_130 sk_116 rfl d_Mod_readLine_133 o670K ?_
                        refine V_iconst 3 d_Mod_readLine_136 (by decide) ?_
                        refine V_icmp_ne 144 o670E tc_3 d_Mod_readLine_137 (by decide) (fun c692 => ?_) (fun c692 => ?_)
                        ·
                          have g693 := x_cS_s b (x_en b (x_en b (x_en b p0)))
                          refine V_iconst 0 d_Mod_readLine_144 (by decide) ?_
                          refine V_iconst 2 d_Mod_readLine_145 (by decide) ?_
                          refine N_callVV [.int 0, .int 2] [] cv_Mod_144 sk_116 rfl d_Mod_readLine_146 rfl (Nat.le_of_ble_eq_true rfl) (by decide) (by decide) (c_Mod_needsX h664 hI666 0 0 tc_0 2 2 tc_2 o669 o669Z o669E o669K o672 o672Z o672E o672K o673 o673Z o673E o673K) (fun h695 p696 => ?_)
                          obtain ⟨hI697, fh695, o699, o699Z, o699E, o699K, o700, o700Z, o700E, o700K, p696⟩ := p696
                          have f698 : fr S_Mod_readLineX h h695 := fr_call f667 fh695 rfl
                          replace p696 := (p696.resolve_left (fun q => by (first | decide +kernel | omega))).2.2
                          refine V_aload_n 0 d_Mod_readLine_149 rfl rfl ?_
                          refine N_callVV [] [] cv_Mod_152 sk_116 rfl d_Mod_readLine_150 rfl (Nat.le_of_ble_eq_true rfl) (by decide) (by decide) (c_Mod_nextX h695 b hI697 s sZ sE (kn_call fh695 (kn_call fh664 (kn_call fh646 (kn_nei eh637 (kn_call fh628 (kn_call fh583 (kn_call fh574 sK rfl) rfl) rfl) (by decide)) rfl) rfl) rfl) o668 o668Z o668E (kn_call fh695 o668K rfl) o669 o669Z o669E (kn_call fh695 o669K rfl) o670 o670Z o670E (kn_call fh695 o670K rfl) o671 o671Z o671E (kn_call fh695 o671K rfl) o699 o699Z o699E o699K o700 o700Z o700E o700K (TP_fr f698 (fun _ => rfl) hy0) (by (first | decide +kernel | omega))) (fun h702 p703 => ?_)
                          obtain ⟨hI704, fh702, o706, o706Z, o706E, o706K, o707, o707Z, o707E, o707K, o708, o708Z, o708E, o708K, o709, o709Z, o709E, o709K, o710, o710Z, o710E, o710K, o711, o711Z, o711E, o711K, p703⟩ := p703
                          have f705 : fr S_Mod_readLineX h h702 := fr_call f698 fh702 rfl
                          have g712 : 0 ≤ o706Z ∧ o706Z ≤ 160 := inv_at hI704 o706E o706K.symm rfl
                          have g713 : 0 ≤ o707Z ∧ o707Z ≤ 160 := inv_at hI704 o707E o707K.symm rfl
                          replace p703 := p703.resolve_right (fun q => by (first | decide +kernel | omega))
                          exact V_vret rfl d_Mod_readLine_153 ⟨rfl, ⟨hI704, f705, o706, o706Z, o706E, o706K, o707, o707Z, o707E, o707K, o708, o708Z, o708E, o708K, o709, o709Z, o709E, o709K, o710, o710Z, o710E, o710K, o711, o711Z, o711E, o711K, ⟨Or.inl ⟨by (first | decide +kernel | omega), (x_line_8 rfl hH hL).trans (hl.trans ((x_sq_y (by (first | decide +kernel | omega))).trans (pq (by (first | decide +kernel | omega)) (by (first | decide +kernel | omega)))))⟩, by (first | decide +kernel | omega), by (first | decide +kernel | omega), by (first | decide +kernel | omega)⟩⟩⟩
                        ·
                          refine V_iconst 1 d_Mod_readLine_140 (by decide) ?_
                          refine V_goto 145 d_Mod_readLine_141 (by decide) ?_
                          refine V_iconst 2 d_Mod_readLine_145 (by decide) ?_
                          refine N_callVV [.int 1, .int 2] [] cv_Mod_144 sk_116 rfl d_Mod_readLine_146 rfl (Nat.le_of_ble_eq_true rfl) (by decide) (by decide) (c_Mod_needsX h664 hI666 1 1 tc_1 2 2 tc_2 o669 o669Z o669E o669K o672 o672Z o672E o672K o673 o673Z o673E o673K) (fun h715 p716 => ?_)
                          obtain ⟨hI717, fh715, o719, o719Z, o719E, o719K, o720, o720Z, o720E, o720K, p716⟩ := p716
                          have f718 : fr S_Mod_readLineX h h715 := fr_call f667 fh715 rfl
                          have R721 : RM h715 (x_upT T 8 0) (x_up (x_up D 84 (x_nn b (x_en b p0))) 85 (x_vl b (x_en b (x_en b p0)))) := RM_fr fh715 rfl p665R
                          replace p716 := (p716.resolve_right (fun q => by (first | decide +kernel | omega))).2
                          have hS9 : x_cS b (x_en b (x_en b (x_en b p0))) = 0 := cS_of (by (first | decide +kernel | omega))
                          have hmo := And.intro (x_fr_ge b p0) (And.intro (x_en_ge b (x_en b p0)) (x_en_ge b (x_en b (x_en b p0))))
                          refine V_aload_n 0 d_Mod_readLine_149 rfl rfl ?_
                          refine N_callVV [] [] cv_Mod_152 sk_116 rfl d_Mod_readLine_150 rfl (Nat.le_of_ble_eq_true rfl) (by decide) (by decide) (c_Mod_nextX h715 b hI717 s sZ sE (kn_call fh715 (kn_call fh664 (kn_call fh646 (kn_nei eh637 (kn_call fh628 (kn_call fh583 (kn_call fh574 sK rfl) rfl) rfl) (by decide)) rfl) rfl) rfl) o668 o668Z o668E (kn_call fh715 o668K rfl) o669 o669Z o669E (kn_call fh715 o669K rfl) o670 o670Z o670E (kn_call fh715 o670K rfl) o671 o671Z o671E (kn_call fh715 o671K rfl) o719 o719Z o719E o719K o720 o720Z o720E o720K (TP_fr f718 (fun _ => rfl) hy0) (by (first | decide +kernel | omega))) (fun h723 p724 => ?_)
                          obtain ⟨hI725, fh723, o727, o727Z, o727E, o727K, o728, o728Z, o728E, o728K, o729, o729Z, o729E, o729K, o730, o730Z, o730E, o730K, o731, o731Z, o731E, o731K, o732, o732Z, o732E, o732K, p724⟩ := p724
                          have f726 : fr S_Mod_readLineX h h723 := fr_call f718 fh723 rfl
                          have R733 : RM h723 (x_upT T 8 0) (x_up (x_up D 84 (x_nn b (x_en b p0))) 85 (x_vl b (x_en b (x_en b p0)))) := RM_fr fh723 rfl R721
                          have g734 : 0 ≤ o727Z ∧ o727Z ≤ 160 := inv_at hI725 o727E o727K.symm rfl
                          have g735 : 0 ≤ o728Z ∧ o728Z ≤ 160 := inv_at hI725 o728E o728K.symm rfl
                          replace p724 := p724.resolve_left (fun q => by (first | decide +kernel | omega))
                          exact V_vret rfl d_Mod_readLine_153 ⟨rfl, ⟨hI725, f726, o727, o727Z, o727E, o727K, o728, o728Z, o728E, o728K, o729, o729Z, o729E, o729K, o730, o730Z, o730E, o730K, o731, o731Z, o731E, o731K, o732, o732Z, o732E, o732K, ⟨Or.inr ⟨x_en b (x_en b (x_en b (x_en b p0))), (x_line_8 rfl hH hL).trans (hl.trans (x_sq_n (by (first | decide +kernel | omega)))), by (first | decide +kernel | omega), by (first | decide +kernel | omega), (by rw [x_T_8 T (u := x_en b p0) rfl hL, x_D_8 D (u := x_en b p0) rfl hL]; exact R733), nx_e p724 (by (first | decide +kernel | omega))⟩, by (first | decide +kernel | omega), by (first | decide +kernel | omega), by (first | decide +kernel | omega)⟩⟩⟩
                  ·
                    exact absurd c662 (by (first | decide +kernel | omega))
        ·
          exact absurd c581 (by decide)
    ·
      obtain rfl : z41 = 4 := (ti_eq z41E tc_4).mpr c44
      subst c44
      have hL : x_li b p0 = 1 := by (first | decide +kernel | omega)
      clear p43
      refine V_aload_n 0 d_Mod_readLine_18 rfl rfl ?_
      refine V_iload_n 1 d_Mod_readLine_19 rfl rfl ?_
      refine V_bipush (-4) d_Mod_readLine_20 (by decide) ?_
      refine V_icmp_eq 29 tc_4 tc_m4 d_Mod_readLine_22 (by decide) (fun c736 => ?_) (fun c736 => ?_)
      ·
        exact absurd c736 (by decide)
      ·
        refine V_iconst 1 d_Mod_readLine_25 (by decide) ?_
        refine V_goto 30 d_Mod_readLine_26 (by decide) ?_
        refine V_iconst 2 d_Mod_readLine_30 (by decide) ?_
        refine N_callVV [.int 1, .int 2] [] cv_Mod_144 sk_116 rfl d_Mod_readLine_31 rfl (Nat.le_of_ble_eq_true rfl) (by decide) (by decide) (c_Mod_needsX h hI 1 1 tc_1 2 2 tc_2 g gZ gE gK w wZ wE wK a aZ aE aK) (fun h738 p739 => ?_)
        obtain ⟨hI740, fh738, o742, o742Z, o742E, o742K, o743, o743Z, o743E, o743K, p739⟩ := p739
        have f741 : fr S_Mod_readLineX h h738 := fr_call f0 fh738 rfl
        have R744 : RM h738 T D := RM_fr fh738 rfl hy3
        replace p739 := (p739.resolve_right (fun q => by (first | decide +kernel | omega))).2
        refine V_aload_n 0 d_Mod_readLine_34 rfl rfl ?_
        refine V_iload_n 1 d_Mod_readLine_35 rfl rfl ?_
        refine V_bipush 9 d_Mod_readLine_36 (by decide) ?_
        refine V_icmp_ne 53 tc_4 tc_9 d_Mod_readLine_38 (by decide) (fun c745 => ?_) (fun c745 => ?_)
        ·
          refine V_iconst 1 d_Mod_readLine_53 (by decide) ?_
          refine V_goto 58 d_Mod_readLine_54 (by decide) ?_
          refine V_iconst 5 d_Mod_readLine_58 (by decide) ?_
          refine N_callVV [.int 1, .int 5] [] cv_Mod_144 sk_116 rfl d_Mod_readLine_59 rfl (Nat.le_of_ble_eq_true rfl) (by decide) (by decide) (c_Mod_needsX h738 hI740 1 1 tc_1 5 5 tc_5 g gZ gE (kn_call fh738 gK rfl) o742 o742Z o742E o742K o743 o743Z o743E o743K) (fun h747 p748 => ?_)
          obtain ⟨hI749, fh747, o751, o751Z, o751E, o751K, o752, o752Z, o752E, o752K, p748⟩ := p748
          have f750 : fr S_Mod_readLineX h h747 := fr_call f741 fh747 rfl
          have R753 : RM h747 T D := RM_fr fh747 rfl R744
          replace p748 := (p748.resolve_right (fun q => by (first | decide +kernel | omega))).2
          refine V_aload_n 0 d_Mod_readLine_62 rfl rfl ?_
          refine N_getK fa_Mod_102 sk_116 rfl d_Mod_readLine_63 o751K ?_
          refine V_if_ne 107 o751E d_Mod_readLine_66 (by decide) (fun c754 => ?_) (fun c754 => ?_)
          ·
            exact absurd c754 (by (first | decide +kernel | omega))
          ·
            refine V_iload_n 1 d_Mod_readLine_69 rfl rfl ?_
            refine V_iconst 3 d_Mod_readLine_70 (by decide) ?_
            refine V_icmp_gt 107 tc_4 tc_3 d_Mod_readLine_71 (by decide) (fun c755 => ?_) (fun c755 => ?_)
            ·
              have g756 : x_fr b pZ = x_fr b (x_en b p0) := congrArg (x_fr b) (by (first | decide +kernel | omega))
              have g757 : x_kd b pZ = x_kd b (x_en b p0) := congrArg (x_kd b) (by (first | decide +kernel | omega))
              have g758 : x_en b pZ = x_en b (x_en b p0) := congrArg (x_en b) (by (first | decide +kernel | omega))
              have g759 : x_vl b pZ = x_vl b (x_en b p0) := congrArg (x_vl b) (by (first | decide +kernel | omega))
              refine V_aload_n 0 d_Mod_readLine_107 rfl rfl ?_
              refine N_callVV [] [] cv_Mod_152 sk_116 rfl d_Mod_readLine_108 rfl (Nat.le_of_ble_eq_true rfl) (by decide) (by decide) (c_Mod_nextX h747 b hI749 s sZ sE (kn_call fh747 (kn_call fh738 sK rfl) rfl) p pZ pE (kn_call fh747 (kn_call fh738 pK rfl) rfl) g gZ gE (kn_call fh747 (kn_call fh738 gK rfl) rfl) k kZ kE (kn_call fh747 (kn_call fh738 kK rfl) rfl) v vZ vE (kn_call fh747 (kn_call fh738 vK rfl) rfl) o751 o751Z o751E o751K o752 o752Z o752E o752K (TP_fr f750 (fun _ => rfl) hy0) (by (first | decide +kernel | omega))) (fun h761 p762 => ?_)
              obtain ⟨hI763, fh761, o765, o765Z, o765E, o765K, o766, o766Z, o766E, o766K, o767, o767Z, o767E, o767K, o768, o768Z, o768E, o768K, o769, o769Z, o769E, o769K, o770, o770Z, o770E, o770K, p762⟩ := p762
              have f764 : fr S_Mod_readLineX h h761 := fr_call f750 fh761 rfl
              have R771 : RM h761 T D := RM_fr fh761 rfl R753
              have g772 : 0 ≤ o765Z ∧ o765Z ≤ 160 := inv_at hI763 o765E o765K.symm rfl
              have g773 : 0 ≤ o766Z ∧ o766Z ≤ 160 := inv_at hI763 o766E o766K.symm rfl
              rcases (dj2 _ : o769Z ≠ 0 ∨ o769Z = 0) with c774 | c774
              ·
                replace p762 := nx_1 (p762.resolve_left (fun q => by (first | decide +kernel | omega))) c774
                have hH : x_cH b T (D 86) p0 = 0 := cH_0 (by (first | decide +kernel | omega)) (by (first | decide +kernel | omega)) (by rw [hL]; omega) (by (first | decide +kernel | omega))
                have g775 := x_cN_s b (x_en b p0) 0 15
                refine V_aload_n 0 d_Mod_readLine_111 rfl rfl ?_
                refine N_getK fa_Mod_102 sk_116 rfl d_Mod_readLine_112 o769K ?_
                refine V_if_le 119 o769E d_Mod_readLine_115 (by decide) (fun c776 => ?_) (fun c776 => ?_)
                ·
                  exact absurd c776 (by (first | decide +kernel | omega))
                ·
                  exact V_vret rfl d_Mod_readLine_118 ⟨rfl, ⟨hI763, f764, o765, o765Z, o765E, o765K, o766, o766Z, o766E, o766K, o767, o767Z, o767E, o767K, o768, o768Z, o768E, o768K, o769, o769Z, o769E, o769K, o770, o770Z, o770E, o770K, ⟨Or.inl ⟨by (first | decide +kernel | omega), (x_line_1 rfl hH hL).trans ((show x_l1 b T (x_en b p0) = (x_cN b (x_en b p0) 0 15, x_fr b (x_en b p0)) from by unfold x_l1; rw [x_sq_y (c := x_cN b (x_en b p0) 0 15) (by (first | decide +kernel | omega))]).trans (pq (by (first | decide +kernel | omega)) (by (first | decide +kernel | omega))))⟩, by (first | decide +kernel | omega), by (first | decide +kernel | omega), by (first | decide +kernel | omega)⟩⟩⟩
              ·
                replace p762 := nx_0 (p762.resolve_left (fun q => by (first | decide +kernel | omega))) c774
                have hH : x_cH b T (D 86) p0 = 0 := cH_0 (by (first | decide +kernel | omega)) (by (first | decide +kernel | omega)) (by rw [hL]; omega) (by (first | decide +kernel | omega))
                refine V_aload_n 0 d_Mod_readLine_111 rfl rfl ?_
                refine N_getK fa_Mod_102 sk_116 rfl d_Mod_readLine_112 o769K ?_
                refine V_if_le 119 o769E d_Mod_readLine_115 (by decide) (fun c777 => ?_) (fun c777 => ?_)
                ·
                  refine V_aload_n 0 d_Mod_readLine_119 rfl rfl ?_
                  refine V_iload_n 1 d_Mod_readLine_120 rfl rfl ?_
                  obtain ⟨z778, z778Z, z778E, z778e⟩ : ∃ (y : Int32) (Y : Int), y.toInt = Y ∧ y = h761.1 120 0 := ⟨_, _, rfl, rfl⟩
                  obtain ⟨z779, z779Z, z779E, z779e⟩ : ∃ (y : Int32) (Y : Int), y.toInt = Y ∧ y = h761.1 116 13 := ⟨_, _, rfl, rfl⟩
                  refine N_callVV [.int 4] [] cv_Mod_177 sk_116 rfl d_Mod_readLine_121 rfl (Nat.le_of_ble_eq_true rfl) (by decide) (by decide) (c_Mod_readLineOfX_4 h761 b T D (x_en b p0) hI763 s sZ sE (kn_call fh761 (kn_call fh747 (kn_call fh738 sK rfl) rfl) rfl) o765 o765Z o765E o765K o766 o766Z o766E o766K o767 o767Z o767E o767K o768 o768Z o768E o768K o769 o769Z o769E o769K o770 o770Z o770E o770K z778 z778Z z778E z778e.symm z779 z779Z z779E z779e.symm (TP_fr f764 (fun _ => rfl) hy0) (by (first | decide +kernel | omega)) (lx_of p762 (by (first | decide +kernel | omega))) R771) (fun h781 p782 => ?_)
                  obtain ⟨hI783, fh781, o785, o785Z, o785E, o785K, o786, o786Z, o786E, o786K, o787, o787Z, o787E, o787K, o788, o788Z, o788E, o788K, o789, o789Z, o789E, o789K, o790, o790Z, o790E, o790K, p782⟩ := p782
                  have f784 : fr S_Mod_readLineX h h781 := fr_call f764 fh781 rfl
                  have g791 : 0 ≤ o785Z ∧ o785Z ≤ 160 := inv_at hI783 o785E o785K.symm rfl
                  have g792 : 0 ≤ o786Z ∧ o786Z ≤ 160 := inv_at hI783 o786E o786K.symm rfl
                  rcases (dj2 _ : o789Z ≠ 0 ∨ o789Z = 0) with c793 | c793
                  ·
                    obtain ⟨hq0, hq⟩ := p782.1.resolve_right (fun q => absurd q.1 c793)
                    replace p782 := p782.2
                    refine V_aload_n 0 d_Mod_readLine_124 rfl rfl ?_
                    refine N_getK fa_Mod_102 sk_116 rfl d_Mod_readLine_125 o789K ?_
                    refine V_if_ne 149 o789E d_Mod_readLine_128 (by decide) (fun c794 => ?_) (fun c794 => ?_)
                    ·
                      refine V_aload_n 0 d_Mod_readLine_149 rfl rfl ?_
                      refine N_callVV [] [] cv_Mod_152 sk_116 rfl d_Mod_readLine_150 rfl (Nat.le_of_ble_eq_true rfl) (by decide) (by decide) (c_Mod_nextX h781 b hI783 s sZ sE (kn_call fh781 (kn_call fh761 (kn_call fh747 (kn_call fh738 sK rfl) rfl) rfl) rfl) o785 o785Z o785E o785K o786 o786Z o786E o786K o787 o787Z o787E o787K o788 o788Z o788E o788K o789 o789Z o789E o789K o790 o790Z o790E o790K (TP_fr f784 (fun _ => rfl) hy0) (by (first | decide +kernel | omega))) (fun h796 p797 => ?_)
                      obtain ⟨hI798, fh796, o800, o800Z, o800E, o800K, o801, o801Z, o801E, o801K, o802, o802Z, o802E, o802K, o803, o803Z, o803E, o803K, o804, o804Z, o804E, o804K, o805, o805Z, o805E, o805K, p797⟩ := p797
                      have f799 : fr S_Mod_readLineX h h796 := fr_call f784 fh796 rfl
                      have g806 : 0 ≤ o800Z ∧ o800Z ≤ 160 := inv_at hI798 o800E o800K.symm rfl
                      have g807 : 0 ≤ o801Z ∧ o801Z ≤ 160 := inv_at hI798 o801E o801K.symm rfl
                      replace p797 := p797.resolve_right (fun q => by (first | decide +kernel | omega))
                      exact V_vret rfl d_Mod_readLine_153 ⟨rfl, ⟨hI798, f799, o800, o800Z, o800E, o800K, o801, o801Z, o801E, o801K, o802, o802Z, o802E, o802K, o803, o803Z, o803E, o803K, o804, o804Z, o804E, o804K, o805, o805Z, o805E, o805K, ⟨Or.inl ⟨by (first | decide +kernel | omega), (x_line_1 rfl hH hL).trans (hq.trans (pq (by (first | decide +kernel | omega)) (by (first | decide +kernel | omega))))⟩, by (first | decide +kernel | omega), by (first | decide +kernel | omega), by (first | decide +kernel | omega)⟩⟩⟩
                    ·
                      exact absurd c794 (by (first | decide +kernel | omega))
                  ·
                    obtain ⟨p7820, hl, p782X, p782R⟩ := p782.1.resolve_left (fun q => absurd c793 q.1)
                    replace p782 := p782.2
                    refine V_aload_n 0 d_Mod_readLine_124 rfl rfl ?_
                    refine N_getK fa_Mod_102 sk_116 rfl d_Mod_readLine_125 o789K ?_
                    refine V_if_ne 149 o789E d_Mod_readLine_128 (by decide) (fun c808 => ?_) (fun c808 => ?_)
                    ·
                      exact absurd c808 (by (first | decide +kernel | omega))
                    ·
                      refine V_aload_n 0 d_Mod_readLine_131 rfl rfl ?_
                      refine V_aload_n 0 d_Mod_readLine_132 rfl rfl ?_
                      refine N_getK fa_Mod_130 sk_116 rfl d_Mod_readLine_133 o787K ?_
                      refine V_iconst 3 d_Mod_readLine_136 (by decide) ?_
                      refine V_icmp_ne 144 o787E tc_3 d_Mod_readLine_137 (by decide) (fun c809 => ?_) (fun c809 => ?_)
                      ·
                        have g810 := x_cS_s b (x_en b (x_en b (x_en b p0)))
                        refine V_iconst 0 d_Mod_readLine_144 (by decide) ?_
                        refine V_iconst 2 d_Mod_readLine_145 (by decide) ?_
                        refine N_callVV [.int 0, .int 2] [] cv_Mod_144 sk_116 rfl d_Mod_readLine_146 rfl (Nat.le_of_ble_eq_true rfl) (by decide) (by decide) (c_Mod_needsX h781 hI783 0 0 tc_0 2 2 tc_2 o786 o786Z o786E o786K o789 o789Z o789E o789K o790 o790Z o790E o790K) (fun h812 p813 => ?_)
                        obtain ⟨hI814, fh812, o816, o816Z, o816E, o816K, o817, o817Z, o817E, o817K, p813⟩ := p813
                        have f815 : fr S_Mod_readLineX h h812 := fr_call f784 fh812 rfl
                        replace p813 := (p813.resolve_left (fun q => by (first | decide +kernel | omega))).2.2
                        refine V_aload_n 0 d_Mod_readLine_149 rfl rfl ?_
                        refine N_callVV [] [] cv_Mod_152 sk_116 rfl d_Mod_readLine_150 rfl (Nat.le_of_ble_eq_true rfl) (by decide) (by decide) (c_Mod_nextX h812 b hI814 s sZ sE (kn_call fh812 (kn_call fh781 (kn_call fh761 (kn_call fh747 (kn_call fh738 sK rfl) rfl) rfl) rfl) rfl) o785 o785Z o785E (kn_call fh812 o785K rfl) o786 o786Z o786E (kn_call fh812 o786K rfl) o787 o787Z o787E (kn_call fh812 o787K rfl) o788 o788Z o788E (kn_call fh812 o788K rfl) o816 o816Z o816E o816K o817 o817Z o817E o817K (TP_fr f815 (fun _ => rfl) hy0) (by (first | decide +kernel | omega))) (fun h819 p820 => ?_)
                        obtain ⟨hI821, fh819, o823, o823Z, o823E, o823K, o824, o824Z, o824E, o824K, o825, o825Z, o825E, o825K, o826, o826Z, o826E, o826K, o827, o827Z, o827E, o827K, o828, o828Z, o828E, o828K, p820⟩ := p820
                        have f822 : fr S_Mod_readLineX h h819 := fr_call f815 fh819 rfl
                        have g829 : 0 ≤ o823Z ∧ o823Z ≤ 160 := inv_at hI821 o823E o823K.symm rfl
                        have g830 : 0 ≤ o824Z ∧ o824Z ≤ 160 := inv_at hI821 o824E o824K.symm rfl
                        replace p820 := p820.resolve_right (fun q => by (first | decide +kernel | omega))
                        exact V_vret rfl d_Mod_readLine_153 ⟨rfl, ⟨hI821, f822, o823, o823Z, o823E, o823K, o824, o824Z, o824E, o824K, o825, o825Z, o825E, o825K, o826, o826Z, o826E, o826K, o827, o827Z, o827E, o827K, o828, o828Z, o828E, o828K, ⟨Or.inl ⟨by (first | decide +kernel | omega), (x_line_1 rfl hH hL).trans (hl.trans ((x_sq_y (by (first | decide +kernel | omega))).trans (pq (by (first | decide +kernel | omega)) (by (first | decide +kernel | omega)))))⟩, by (first | decide +kernel | omega), by (first | decide +kernel | omega), by (first | decide +kernel | omega)⟩⟩⟩
                      ·
                        refine V_iconst 1 d_Mod_readLine_140 (by decide) ?_
                        refine V_goto 145 d_Mod_readLine_141 (by decide) ?_
                        refine V_iconst 2 d_Mod_readLine_145 (by decide) ?_
                        refine N_callVV [.int 1, .int 2] [] cv_Mod_144 sk_116 rfl d_Mod_readLine_146 rfl (Nat.le_of_ble_eq_true rfl) (by decide) (by decide) (c_Mod_needsX h781 hI783 1 1 tc_1 2 2 tc_2 o786 o786Z o786E o786K o789 o789Z o789E o789K o790 o790Z o790E o790K) (fun h832 p833 => ?_)
                        obtain ⟨hI834, fh832, o836, o836Z, o836E, o836K, o837, o837Z, o837E, o837K, p833⟩ := p833
                        have f835 : fr S_Mod_readLineX h h832 := fr_call f784 fh832 rfl
                        have R838 : RM h832 (x_upT T 1 (x_vl b (x_en b p0))) (x_up D (x_vl b (x_en b p0)) (x_vl b (x_en b (x_en b p0)))) := RM_fr fh832 rfl p782R
                        replace p833 := (p833.resolve_right (fun q => by (first | decide +kernel | omega))).2
                        have hS9 : x_cS b (x_en b (x_en b (x_en b p0))) = 0 := cS_of (by (first | decide +kernel | omega))
                        have hmo := And.intro (x_fr_ge b p0) (And.intro (x_en_ge b (x_en b p0)) (x_en_ge b (x_en b (x_en b p0))))
                        refine V_aload_n 0 d_Mod_readLine_149 rfl rfl ?_
                        refine N_callVV [] [] cv_Mod_152 sk_116 rfl d_Mod_readLine_150 rfl (Nat.le_of_ble_eq_true rfl) (by decide) (by decide) (c_Mod_nextX h832 b hI834 s sZ sE (kn_call fh832 (kn_call fh781 (kn_call fh761 (kn_call fh747 (kn_call fh738 sK rfl) rfl) rfl) rfl) rfl) o785 o785Z o785E (kn_call fh832 o785K rfl) o786 o786Z o786E (kn_call fh832 o786K rfl) o787 o787Z o787E (kn_call fh832 o787K rfl) o788 o788Z o788E (kn_call fh832 o788K rfl) o836 o836Z o836E o836K o837 o837Z o837E o837K (TP_fr f835 (fun _ => rfl) hy0) (by (first | decide +kernel | omega))) (fun h840 p841 => ?_)
                        obtain ⟨hI842, fh840, o844, o844Z, o844E, o844K, o845, o845Z, o845E, o845K, o846, o846Z, o846E, o846K, o847, o847Z, o847E, o847K, o848, o848Z, o848E, o848K, o849, o849Z, o849E, o849K, p841⟩ := p841
                        have f843 : fr S_Mod_readLineX h h840 := fr_call f835 fh840 rfl
                        have R850 : RM h840 (x_upT T 1 (x_vl b (x_en b p0))) (x_up D (x_vl b (x_en b p0)) (x_vl b (x_en b (x_en b p0)))) := RM_fr fh840 rfl R838
                        have g851 : 0 ≤ o844Z ∧ o844Z ≤ 160 := inv_at hI842 o844E o844K.symm rfl
                        have g852 : 0 ≤ o845Z ∧ o845Z ≤ 160 := inv_at hI842 o845E o845K.symm rfl
                        replace p841 := p841.resolve_left (fun q => by (first | decide +kernel | omega))
                        exact V_vret rfl d_Mod_readLine_153 ⟨rfl, ⟨hI842, f843, o844, o844Z, o844E, o844K, o845, o845Z, o845E, o845K, o846, o846Z, o846E, o846K, o847, o847Z, o847E, o847K, o848, o848Z, o848E, o848K, o849, o849Z, o849E, o849K, ⟨Or.inr ⟨x_en b (x_en b (x_en b (x_en b p0))), (x_line_1 rfl hH hL).trans (hl.trans (x_sq_n (by (first | decide +kernel | omega)))), by (first | decide +kernel | omega), by (first | decide +kernel | omega), (by rw [x_T_1 T (u := x_en b p0) rfl hL, x_D_1 D (u := x_en b p0) rfl hL]; exact R850), nx_e p841 (by (first | decide +kernel | omega))⟩, by (first | decide +kernel | omega), by (first | decide +kernel | omega), by (first | decide +kernel | omega)⟩⟩⟩
                ·
                  exact absurd c777 (by (first | decide +kernel | omega))
            ·
              exact absurd c755 (by decide)
        ·
          exact absurd c745 (by decide)
    ·
      obtain rfl : z41 = 5 := (ti_eq z41E tc_5).mpr c44
      subst c44
      have hL : x_li b p0 = 2 := by (first | decide +kernel | omega)
      clear p43
      refine V_aload_n 0 d_Mod_readLine_18 rfl rfl ?_
      refine V_iload_n 1 d_Mod_readLine_19 rfl rfl ?_
      refine V_bipush (-4) d_Mod_readLine_20 (by decide) ?_
      refine V_icmp_eq 29 tc_5 tc_m4 d_Mod_readLine_22 (by decide) (fun c853 => ?_) (fun c853 => ?_)
      ·
        exact absurd c853 (by decide)
      ·
        refine V_iconst 1 d_Mod_readLine_25 (by decide) ?_
        refine V_goto 30 d_Mod_readLine_26 (by decide) ?_
        refine V_iconst 2 d_Mod_readLine_30 (by decide) ?_
        refine N_callVV [.int 1, .int 2] [] cv_Mod_144 sk_116 rfl d_Mod_readLine_31 rfl (Nat.le_of_ble_eq_true rfl) (by decide) (by decide) (c_Mod_needsX h hI 1 1 tc_1 2 2 tc_2 g gZ gE gK w wZ wE wK a aZ aE aK) (fun h855 p856 => ?_)
        obtain ⟨hI857, fh855, o859, o859Z, o859E, o859K, o860, o860Z, o860E, o860K, p856⟩ := p856
        have f858 : fr S_Mod_readLineX h h855 := fr_call f0 fh855 rfl
        have R861 : RM h855 T D := RM_fr fh855 rfl hy3
        replace p856 := (p856.resolve_right (fun q => by (first | decide +kernel | omega))).2
        refine V_aload_n 0 d_Mod_readLine_34 rfl rfl ?_
        refine V_iload_n 1 d_Mod_readLine_35 rfl rfl ?_
        refine V_bipush 9 d_Mod_readLine_36 (by decide) ?_
        refine V_icmp_ne 53 tc_5 tc_9 d_Mod_readLine_38 (by decide) (fun c862 => ?_) (fun c862 => ?_)
        ·
          refine V_iconst 1 d_Mod_readLine_53 (by decide) ?_
          refine V_goto 58 d_Mod_readLine_54 (by decide) ?_
          refine V_iconst 5 d_Mod_readLine_58 (by decide) ?_
          refine N_callVV [.int 1, .int 5] [] cv_Mod_144 sk_116 rfl d_Mod_readLine_59 rfl (Nat.le_of_ble_eq_true rfl) (by decide) (by decide) (c_Mod_needsX h855 hI857 1 1 tc_1 5 5 tc_5 g gZ gE (kn_call fh855 gK rfl) o859 o859Z o859E o859K o860 o860Z o860E o860K) (fun h864 p865 => ?_)
          obtain ⟨hI866, fh864, o868, o868Z, o868E, o868K, o869, o869Z, o869E, o869K, p865⟩ := p865
          have f867 : fr S_Mod_readLineX h h864 := fr_call f858 fh864 rfl
          have R870 : RM h864 T D := RM_fr fh864 rfl R861
          replace p865 := (p865.resolve_right (fun q => by (first | decide +kernel | omega))).2
          refine V_aload_n 0 d_Mod_readLine_62 rfl rfl ?_
          refine N_getK fa_Mod_102 sk_116 rfl d_Mod_readLine_63 o868K ?_
          refine V_if_ne 107 o868E d_Mod_readLine_66 (by decide) (fun c871 => ?_) (fun c871 => ?_)
          ·
            exact absurd c871 (by (first | decide +kernel | omega))
          ·
            refine V_iload_n 1 d_Mod_readLine_69 rfl rfl ?_
            refine V_iconst 3 d_Mod_readLine_70 (by decide) ?_
            refine V_icmp_gt 107 tc_5 tc_3 d_Mod_readLine_71 (by decide) (fun c872 => ?_) (fun c872 => ?_)
            ·
              have g873 : x_fr b pZ = x_fr b (x_en b p0) := congrArg (x_fr b) (by (first | decide +kernel | omega))
              have g874 : x_kd b pZ = x_kd b (x_en b p0) := congrArg (x_kd b) (by (first | decide +kernel | omega))
              have g875 : x_en b pZ = x_en b (x_en b p0) := congrArg (x_en b) (by (first | decide +kernel | omega))
              have g876 : x_vl b pZ = x_vl b (x_en b p0) := congrArg (x_vl b) (by (first | decide +kernel | omega))
              refine V_aload_n 0 d_Mod_readLine_107 rfl rfl ?_
              refine N_callVV [] [] cv_Mod_152 sk_116 rfl d_Mod_readLine_108 rfl (Nat.le_of_ble_eq_true rfl) (by decide) (by decide) (c_Mod_nextX h864 b hI866 s sZ sE (kn_call fh864 (kn_call fh855 sK rfl) rfl) p pZ pE (kn_call fh864 (kn_call fh855 pK rfl) rfl) g gZ gE (kn_call fh864 (kn_call fh855 gK rfl) rfl) k kZ kE (kn_call fh864 (kn_call fh855 kK rfl) rfl) v vZ vE (kn_call fh864 (kn_call fh855 vK rfl) rfl) o868 o868Z o868E o868K o869 o869Z o869E o869K (TP_fr f867 (fun _ => rfl) hy0) (by (first | decide +kernel | omega))) (fun h878 p879 => ?_)
              obtain ⟨hI880, fh878, o882, o882Z, o882E, o882K, o883, o883Z, o883E, o883K, o884, o884Z, o884E, o884K, o885, o885Z, o885E, o885K, o886, o886Z, o886E, o886K, o887, o887Z, o887E, o887K, p879⟩ := p879
              have f881 : fr S_Mod_readLineX h h878 := fr_call f867 fh878 rfl
              have R888 : RM h878 T D := RM_fr fh878 rfl R870
              have g889 : 0 ≤ o882Z ∧ o882Z ≤ 160 := inv_at hI880 o882E o882K.symm rfl
              have g890 : 0 ≤ o883Z ∧ o883Z ≤ 160 := inv_at hI880 o883E o883K.symm rfl
              rcases (dj2 _ : o886Z ≠ 0 ∨ o886Z = 0) with c891 | c891
              ·
                replace p879 := nx_1 (p879.resolve_left (fun q => by (first | decide +kernel | omega))) c891
                have hH : x_cH b T (D 86) p0 = 0 := cH_0 (by (first | decide +kernel | omega)) (by (first | decide +kernel | omega)) (by rw [hL]; omega) (by (first | decide +kernel | omega))
                have g892 := x_cN_s b (x_en b p0) 0 15
                refine V_aload_n 0 d_Mod_readLine_111 rfl rfl ?_
                refine N_getK fa_Mod_102 sk_116 rfl d_Mod_readLine_112 o886K ?_
                refine V_if_le 119 o886E d_Mod_readLine_115 (by decide) (fun c893 => ?_) (fun c893 => ?_)
                ·
                  exact absurd c893 (by (first | decide +kernel | omega))
                ·
                  exact V_vret rfl d_Mod_readLine_118 ⟨rfl, ⟨hI880, f881, o882, o882Z, o882E, o882K, o883, o883Z, o883E, o883K, o884, o884Z, o884E, o884K, o885, o885Z, o885E, o885K, o886, o886Z, o886E, o886K, o887, o887Z, o887E, o887K, ⟨Or.inl ⟨by (first | decide +kernel | omega), (x_line_2 rfl hH hL).trans ((show x_l2 b T (x_en b p0) = (x_cN b (x_en b p0) 0 15, x_fr b (x_en b p0)) from by unfold x_l2; rw [x_sq_y (c := x_cN b (x_en b p0) 0 15) (by (first | decide +kernel | omega))]).trans (pq (by (first | decide +kernel | omega)) (by (first | decide +kernel | omega))))⟩, by (first | decide +kernel | omega), by (first | decide +kernel | omega), by (first | decide +kernel | omega)⟩⟩⟩
              ·
                replace p879 := nx_0 (p879.resolve_left (fun q => by (first | decide +kernel | omega))) c891
                have hH : x_cH b T (D 86) p0 = 0 := cH_0 (by (first | decide +kernel | omega)) (by (first | decide +kernel | omega)) (by rw [hL]; omega) (by (first | decide +kernel | omega))
                refine V_aload_n 0 d_Mod_readLine_111 rfl rfl ?_
                refine N_getK fa_Mod_102 sk_116 rfl d_Mod_readLine_112 o886K ?_
                refine V_if_le 119 o886E d_Mod_readLine_115 (by decide) (fun c894 => ?_) (fun c894 => ?_)
                ·
                  refine V_aload_n 0 d_Mod_readLine_119 rfl rfl ?_
                  refine V_iload_n 1 d_Mod_readLine_120 rfl rfl ?_
                  obtain ⟨z895, z895Z, z895E, z895e⟩ : ∃ (y : Int32) (Y : Int), y.toInt = Y ∧ y = h878.1 120 1 := ⟨_, _, rfl, rfl⟩
                  obtain ⟨z896, z896Z, z896E, z896e⟩ : ∃ (y : Int32) (Y : Int), y.toInt = Y ∧ y = h878.1 116 13 := ⟨_, _, rfl, rfl⟩
                  refine N_callVV [.int 5] [] cv_Mod_177 sk_116 rfl d_Mod_readLine_121 rfl (Nat.le_of_ble_eq_true rfl) (by decide) (by decide) (c_Mod_readLineOfX_5 h878 b T D (x_en b p0) hI880 s sZ sE (kn_call fh878 (kn_call fh864 (kn_call fh855 sK rfl) rfl) rfl) o882 o882Z o882E o882K o883 o883Z o883E o883K o884 o884Z o884E o884K o885 o885Z o885E o885K o886 o886Z o886E o886K o887 o887Z o887E o887K z895 z895Z z895E z895e.symm z896 z896Z z896E z896e.symm (TP_fr f881 (fun _ => rfl) hy0) (by (first | decide +kernel | omega)) (lx_of p879 (by (first | decide +kernel | omega))) R888) (fun h898 p899 => ?_)
                  obtain ⟨hI900, fh898, o902, o902Z, o902E, o902K, o903, o903Z, o903E, o903K, o904, o904Z, o904E, o904K, o905, o905Z, o905E, o905K, o906, o906Z, o906E, o906K, o907, o907Z, o907E, o907K, p899⟩ := p899
                  have f901 : fr S_Mod_readLineX h h898 := fr_call f881 fh898 rfl
                  have g908 : 0 ≤ o902Z ∧ o902Z ≤ 160 := inv_at hI900 o902E o902K.symm rfl
                  have g909 : 0 ≤ o903Z ∧ o903Z ≤ 160 := inv_at hI900 o903E o903K.symm rfl
                  rcases (dj2 _ : o906Z ≠ 0 ∨ o906Z = 0) with c910 | c910
                  ·
                    obtain ⟨hq0, hq⟩ := p899.1.resolve_right (fun q => absurd q.1 c910)
                    replace p899 := p899.2
                    refine V_aload_n 0 d_Mod_readLine_124 rfl rfl ?_
                    refine N_getK fa_Mod_102 sk_116 rfl d_Mod_readLine_125 o906K ?_
                    refine V_if_ne 149 o906E d_Mod_readLine_128 (by decide) (fun c911 => ?_) (fun c911 => ?_)
                    ·
                      refine V_aload_n 0 d_Mod_readLine_149 rfl rfl ?_
                      refine N_callVV [] [] cv_Mod_152 sk_116 rfl d_Mod_readLine_150 rfl (Nat.le_of_ble_eq_true rfl) (by decide) (by decide) (c_Mod_nextX h898 b hI900 s sZ sE (kn_call fh898 (kn_call fh878 (kn_call fh864 (kn_call fh855 sK rfl) rfl) rfl) rfl) o902 o902Z o902E o902K o903 o903Z o903E o903K o904 o904Z o904E o904K o905 o905Z o905E o905K o906 o906Z o906E o906K o907 o907Z o907E o907K (TP_fr f901 (fun _ => rfl) hy0) (by (first | decide +kernel | omega))) (fun h913 p914 => ?_)
                      obtain ⟨hI915, fh913, o917, o917Z, o917E, o917K, o918, o918Z, o918E, o918K, o919, o919Z, o919E, o919K, o920, o920Z, o920E, o920K, o921, o921Z, o921E, o921K, o922, o922Z, o922E, o922K, p914⟩ := p914
                      have f916 : fr S_Mod_readLineX h h913 := fr_call f901 fh913 rfl
                      have g923 : 0 ≤ o917Z ∧ o917Z ≤ 160 := inv_at hI915 o917E o917K.symm rfl
                      have g924 : 0 ≤ o918Z ∧ o918Z ≤ 160 := inv_at hI915 o918E o918K.symm rfl
                      replace p914 := p914.resolve_right (fun q => by (first | decide +kernel | omega))
                      exact V_vret rfl d_Mod_readLine_153 ⟨rfl, ⟨hI915, f916, o917, o917Z, o917E, o917K, o918, o918Z, o918E, o918K, o919, o919Z, o919E, o919K, o920, o920Z, o920E, o920K, o921, o921Z, o921E, o921K, o922, o922Z, o922E, o922K, ⟨Or.inl ⟨by (first | decide +kernel | omega), (x_line_2 rfl hH hL).trans (hq.trans (pq (by (first | decide +kernel | omega)) (by (first | decide +kernel | omega))))⟩, by (first | decide +kernel | omega), by (first | decide +kernel | omega), by (first | decide +kernel | omega)⟩⟩⟩
                    ·
                      exact absurd c911 (by (first | decide +kernel | omega))
                  ·
                    obtain ⟨p8990, hl, p899X, p899R⟩ := p899.1.resolve_left (fun q => absurd c910 q.1)
                    replace p899 := p899.2
                    refine V_aload_n 0 d_Mod_readLine_124 rfl rfl ?_
                    refine N_getK fa_Mod_102 sk_116 rfl d_Mod_readLine_125 o906K ?_
                    refine V_if_ne 149 o906E d_Mod_readLine_128 (by decide) (fun c925 => ?_) (fun c925 => ?_)
                    ·
                      exact absurd c925 (by (first | decide +kernel | omega))
                    ·
                      refine V_aload_n 0 d_Mod_readLine_131 rfl rfl ?_
                      refine V_aload_n 0 d_Mod_readLine_132 rfl rfl ?_
                      refine N_getK fa_Mod_130 sk_116 rfl d_Mod_readLine_133 o904K ?_
                      refine V_iconst 3 d_Mod_readLine_136 (by decide) ?_
                      refine V_icmp_ne 144 o904E tc_3 d_Mod_readLine_137 (by decide) (fun c926 => ?_) (fun c926 => ?_)
                      ·
                        have g927 := x_cS_s b (x_en b (x_en b p0))
                        refine V_iconst 0 d_Mod_readLine_144 (by decide) ?_
                        refine V_iconst 2 d_Mod_readLine_145 (by decide) ?_
                        refine N_callVV [.int 0, .int 2] [] cv_Mod_144 sk_116 rfl d_Mod_readLine_146 rfl (Nat.le_of_ble_eq_true rfl) (by decide) (by decide) (c_Mod_needsX h898 hI900 0 0 tc_0 2 2 tc_2 o903 o903Z o903E o903K o906 o906Z o906E o906K o907 o907Z o907E o907K) (fun h929 p930 => ?_)
                        obtain ⟨hI931, fh929, o933, o933Z, o933E, o933K, o934, o934Z, o934E, o934K, p930⟩ := p930
                        have f932 : fr S_Mod_readLineX h h929 := fr_call f901 fh929 rfl
                        replace p930 := (p930.resolve_left (fun q => by (first | decide +kernel | omega))).2.2
                        refine V_aload_n 0 d_Mod_readLine_149 rfl rfl ?_
                        refine N_callVV [] [] cv_Mod_152 sk_116 rfl d_Mod_readLine_150 rfl (Nat.le_of_ble_eq_true rfl) (by decide) (by decide) (c_Mod_nextX h929 b hI931 s sZ sE (kn_call fh929 (kn_call fh898 (kn_call fh878 (kn_call fh864 (kn_call fh855 sK rfl) rfl) rfl) rfl) rfl) o902 o902Z o902E (kn_call fh929 o902K rfl) o903 o903Z o903E (kn_call fh929 o903K rfl) o904 o904Z o904E (kn_call fh929 o904K rfl) o905 o905Z o905E (kn_call fh929 o905K rfl) o933 o933Z o933E o933K o934 o934Z o934E o934K (TP_fr f932 (fun _ => rfl) hy0) (by (first | decide +kernel | omega))) (fun h936 p937 => ?_)
                        obtain ⟨hI938, fh936, o940, o940Z, o940E, o940K, o941, o941Z, o941E, o941K, o942, o942Z, o942E, o942K, o943, o943Z, o943E, o943K, o944, o944Z, o944E, o944K, o945, o945Z, o945E, o945K, p937⟩ := p937
                        have f939 : fr S_Mod_readLineX h h936 := fr_call f932 fh936 rfl
                        have g946 : 0 ≤ o940Z ∧ o940Z ≤ 160 := inv_at hI938 o940E o940K.symm rfl
                        have g947 : 0 ≤ o941Z ∧ o941Z ≤ 160 := inv_at hI938 o941E o941K.symm rfl
                        replace p937 := p937.resolve_right (fun q => by (first | decide +kernel | omega))
                        exact V_vret rfl d_Mod_readLine_153 ⟨rfl, ⟨hI938, f939, o940, o940Z, o940E, o940K, o941, o941Z, o941E, o941K, o942, o942Z, o942E, o942K, o943, o943Z, o943E, o943K, o944, o944Z, o944E, o944K, o945, o945Z, o945E, o945K, ⟨Or.inl ⟨by (first | decide +kernel | omega), (x_line_2 rfl hH hL).trans (hl.trans ((x_sq_y (by (first | decide +kernel | omega))).trans (pq (by (first | decide +kernel | omega)) (by (first | decide +kernel | omega)))))⟩, by (first | decide +kernel | omega), by (first | decide +kernel | omega), by (first | decide +kernel | omega)⟩⟩⟩
                      ·
                        refine V_iconst 1 d_Mod_readLine_140 (by decide) ?_
                        refine V_goto 145 d_Mod_readLine_141 (by decide) ?_
                        refine V_iconst 2 d_Mod_readLine_145 (by decide) ?_
                        refine N_callVV [.int 1, .int 2] [] cv_Mod_144 sk_116 rfl d_Mod_readLine_146 rfl (Nat.le_of_ble_eq_true rfl) (by decide) (by decide) (c_Mod_needsX h898 hI900 1 1 tc_1 2 2 tc_2 o903 o903Z o903E o903K o906 o906Z o906E o906K o907 o907Z o907E o907K) (fun h949 p950 => ?_)
                        obtain ⟨hI951, fh949, o953, o953Z, o953E, o953K, o954, o954Z, o954E, o954K, p950⟩ := p950
                        have f952 : fr S_Mod_readLineX h h949 := fr_call f901 fh949 rfl
                        have R955 : RM h949 (x_upT T 2 (x_vl b (x_en b p0))) (x_up D (16 + (x_vl b (x_en b p0))) 1) := RM_fr fh949 rfl p899R
                        replace p950 := (p950.resolve_right (fun q => by (first | decide +kernel | omega))).2
                        have hS9 : x_cS b (x_en b (x_en b p0)) = 0 := cS_of (by (first | decide +kernel | omega))
                        have hmo := x_en_ge b (x_en b p0)
                        refine V_aload_n 0 d_Mod_readLine_149 rfl rfl ?_
                        refine N_callVV [] [] cv_Mod_152 sk_116 rfl d_Mod_readLine_150 rfl (Nat.le_of_ble_eq_true rfl) (by decide) (by decide) (c_Mod_nextX h949 b hI951 s sZ sE (kn_call fh949 (kn_call fh898 (kn_call fh878 (kn_call fh864 (kn_call fh855 sK rfl) rfl) rfl) rfl) rfl) o902 o902Z o902E (kn_call fh949 o902K rfl) o903 o903Z o903E (kn_call fh949 o903K rfl) o904 o904Z o904E (kn_call fh949 o904K rfl) o905 o905Z o905E (kn_call fh949 o905K rfl) o953 o953Z o953E o953K o954 o954Z o954E o954K (TP_fr f952 (fun _ => rfl) hy0) (by (first | decide +kernel | omega))) (fun h957 p958 => ?_)
                        obtain ⟨hI959, fh957, o961, o961Z, o961E, o961K, o962, o962Z, o962E, o962K, o963, o963Z, o963E, o963K, o964, o964Z, o964E, o964K, o965, o965Z, o965E, o965K, o966, o966Z, o966E, o966K, p958⟩ := p958
                        have f960 : fr S_Mod_readLineX h h957 := fr_call f952 fh957 rfl
                        have R967 : RM h957 (x_upT T 2 (x_vl b (x_en b p0))) (x_up D (16 + (x_vl b (x_en b p0))) 1) := RM_fr fh957 rfl R955
                        have g968 : 0 ≤ o961Z ∧ o961Z ≤ 160 := inv_at hI959 o961E o961K.symm rfl
                        have g969 : 0 ≤ o962Z ∧ o962Z ≤ 160 := inv_at hI959 o962E o962K.symm rfl
                        replace p958 := p958.resolve_left (fun q => by (first | decide +kernel | omega))
                        exact V_vret rfl d_Mod_readLine_153 ⟨rfl, ⟨hI959, f960, o961, o961Z, o961E, o961K, o962, o962Z, o962E, o962K, o963, o963Z, o963E, o963K, o964, o964Z, o964E, o964K, o965, o965Z, o965E, o965K, o966, o966Z, o966E, o966K, ⟨Or.inr ⟨x_en b (x_en b (x_en b p0)), (x_line_2 rfl hH hL).trans (hl.trans (x_sq_n (by (first | decide +kernel | omega)))), by (first | decide +kernel | omega), by (first | decide +kernel | omega), (by rw [x_T_2 T (u := x_en b p0) rfl hL, x_D_2 D (u := x_en b p0) rfl hL]; exact R967), nx_e p958 (by (first | decide +kernel | omega))⟩, by (first | decide +kernel | omega), by (first | decide +kernel | omega), by (first | decide +kernel | omega)⟩⟩⟩
                ·
                  exact absurd c894 (by (first | decide +kernel | omega))
            ·
              exact absurd c872 (by decide)
        ·
          exact absurd c862 (by decide)
    ·
      obtain rfl : z41 = 6 := (ti_eq z41E tc_6).mpr c44
      subst c44
      have hL : x_li b p0 = 3 := by (first | decide +kernel | omega)
      clear p43
      refine V_aload_n 0 d_Mod_readLine_18 rfl rfl ?_
      refine V_iload_n 1 d_Mod_readLine_19 rfl rfl ?_
      refine V_bipush (-4) d_Mod_readLine_20 (by decide) ?_
      refine V_icmp_eq 29 tc_6 tc_m4 d_Mod_readLine_22 (by decide) (fun c970 => ?_) (fun c970 => ?_)
      ·
        exact absurd c970 (by decide)
      ·
        refine V_iconst 1 d_Mod_readLine_25 (by decide) ?_
        refine V_goto 30 d_Mod_readLine_26 (by decide) ?_
        refine V_iconst 2 d_Mod_readLine_30 (by decide) ?_
        refine N_callVV [.int 1, .int 2] [] cv_Mod_144 sk_116 rfl d_Mod_readLine_31 rfl (Nat.le_of_ble_eq_true rfl) (by decide) (by decide) (c_Mod_needsX h hI 1 1 tc_1 2 2 tc_2 g gZ gE gK w wZ wE wK a aZ aE aK) (fun h972 p973 => ?_)
        obtain ⟨hI974, fh972, o976, o976Z, o976E, o976K, o977, o977Z, o977E, o977K, p973⟩ := p973
        have f975 : fr S_Mod_readLineX h h972 := fr_call f0 fh972 rfl
        have R978 : RM h972 T D := RM_fr fh972 rfl hy3
        replace p973 := (p973.resolve_right (fun q => by (first | decide +kernel | omega))).2
        refine V_aload_n 0 d_Mod_readLine_34 rfl rfl ?_
        refine V_iload_n 1 d_Mod_readLine_35 rfl rfl ?_
        refine V_bipush 9 d_Mod_readLine_36 (by decide) ?_
        refine V_icmp_ne 53 tc_6 tc_9 d_Mod_readLine_38 (by decide) (fun c979 => ?_) (fun c979 => ?_)
        ·
          refine V_iconst 1 d_Mod_readLine_53 (by decide) ?_
          refine V_goto 58 d_Mod_readLine_54 (by decide) ?_
          refine V_iconst 5 d_Mod_readLine_58 (by decide) ?_
          refine N_callVV [.int 1, .int 5] [] cv_Mod_144 sk_116 rfl d_Mod_readLine_59 rfl (Nat.le_of_ble_eq_true rfl) (by decide) (by decide) (c_Mod_needsX h972 hI974 1 1 tc_1 5 5 tc_5 g gZ gE (kn_call fh972 gK rfl) o976 o976Z o976E o976K o977 o977Z o977E o977K) (fun h981 p982 => ?_)
          obtain ⟨hI983, fh981, o985, o985Z, o985E, o985K, o986, o986Z, o986E, o986K, p982⟩ := p982
          have f984 : fr S_Mod_readLineX h h981 := fr_call f975 fh981 rfl
          have R987 : RM h981 T D := RM_fr fh981 rfl R978
          replace p982 := (p982.resolve_right (fun q => by (first | decide +kernel | omega))).2
          refine V_aload_n 0 d_Mod_readLine_62 rfl rfl ?_
          refine N_getK fa_Mod_102 sk_116 rfl d_Mod_readLine_63 o985K ?_
          refine V_if_ne 107 o985E d_Mod_readLine_66 (by decide) (fun c988 => ?_) (fun c988 => ?_)
          ·
            exact absurd c988 (by (first | decide +kernel | omega))
          ·
            refine V_iload_n 1 d_Mod_readLine_69 rfl rfl ?_
            refine V_iconst 3 d_Mod_readLine_70 (by decide) ?_
            refine V_icmp_gt 107 tc_6 tc_3 d_Mod_readLine_71 (by decide) (fun c989 => ?_) (fun c989 => ?_)
            ·
              have g990 : x_fr b pZ = x_fr b (x_en b p0) := congrArg (x_fr b) (by (first | decide +kernel | omega))
              have g991 : x_kd b pZ = x_kd b (x_en b p0) := congrArg (x_kd b) (by (first | decide +kernel | omega))
              have g992 : x_en b pZ = x_en b (x_en b p0) := congrArg (x_en b) (by (first | decide +kernel | omega))
              have g993 : x_vl b pZ = x_vl b (x_en b p0) := congrArg (x_vl b) (by (first | decide +kernel | omega))
              refine V_aload_n 0 d_Mod_readLine_107 rfl rfl ?_
              refine N_callVV [] [] cv_Mod_152 sk_116 rfl d_Mod_readLine_108 rfl (Nat.le_of_ble_eq_true rfl) (by decide) (by decide) (c_Mod_nextX h981 b hI983 s sZ sE (kn_call fh981 (kn_call fh972 sK rfl) rfl) p pZ pE (kn_call fh981 (kn_call fh972 pK rfl) rfl) g gZ gE (kn_call fh981 (kn_call fh972 gK rfl) rfl) k kZ kE (kn_call fh981 (kn_call fh972 kK rfl) rfl) v vZ vE (kn_call fh981 (kn_call fh972 vK rfl) rfl) o985 o985Z o985E o985K o986 o986Z o986E o986K (TP_fr f984 (fun _ => rfl) hy0) (by (first | decide +kernel | omega))) (fun h995 p996 => ?_)
              obtain ⟨hI997, fh995, o999, o999Z, o999E, o999K, o1000, o1000Z, o1000E, o1000K, o1001, o1001Z, o1001E, o1001K, o1002, o1002Z, o1002E, o1002K, o1003, o1003Z, o1003E, o1003K, o1004, o1004Z, o1004E, o1004K, p996⟩ := p996
              have f998 : fr S_Mod_readLineX h h995 := fr_call f984 fh995 rfl
              have R1005 : RM h995 T D := RM_fr fh995 rfl R987
              have g1006 : 0 ≤ o999Z ∧ o999Z ≤ 160 := inv_at hI997 o999E o999K.symm rfl
              have g1007 : 0 ≤ o1000Z ∧ o1000Z ≤ 160 := inv_at hI997 o1000E o1000K.symm rfl
              rcases (dj2 _ : o1003Z ≠ 0 ∨ o1003Z = 0) with c1008 | c1008
              ·
                replace p996 := nx_1 (p996.resolve_left (fun q => by (first | decide +kernel | omega))) c1008
                have hH : x_cH b T (D 86) p0 = 0 := cH_0 (by (first | decide +kernel | omega)) (by (first | decide +kernel | omega)) (by rw [hL]; omega) (by (first | decide +kernel | omega))
                have g1009 := x_cN_s b (x_en b p0) 0 15
                refine V_aload_n 0 d_Mod_readLine_111 rfl rfl ?_
                refine N_getK fa_Mod_102 sk_116 rfl d_Mod_readLine_112 o1003K ?_
                refine V_if_le 119 o1003E d_Mod_readLine_115 (by decide) (fun c1010 => ?_) (fun c1010 => ?_)
                ·
                  exact absurd c1010 (by (first | decide +kernel | omega))
                ·
                  exact V_vret rfl d_Mod_readLine_118 ⟨rfl, ⟨hI997, f998, o999, o999Z, o999E, o999K, o1000, o1000Z, o1000E, o1000K, o1001, o1001Z, o1001E, o1001K, o1002, o1002Z, o1002E, o1002K, o1003, o1003Z, o1003E, o1003K, o1004, o1004Z, o1004E, o1004K, ⟨Or.inl ⟨by (first | decide +kernel | omega), (x_line_3 rfl hH hL).trans ((show x_l3 b T (x_en b p0) = (x_cN b (x_en b p0) 0 15, x_fr b (x_en b p0)) from by unfold x_l3; rw [x_sq_y (c := x_cN b (x_en b p0) 0 15) (by (first | decide +kernel | omega))]).trans (pq (by (first | decide +kernel | omega)) (by (first | decide +kernel | omega))))⟩, by (first | decide +kernel | omega), by (first | decide +kernel | omega), by (first | decide +kernel | omega)⟩⟩⟩
              ·
                replace p996 := nx_0 (p996.resolve_left (fun q => by (first | decide +kernel | omega))) c1008
                have hH : x_cH b T (D 86) p0 = 0 := cH_0 (by (first | decide +kernel | omega)) (by (first | decide +kernel | omega)) (by rw [hL]; omega) (by (first | decide +kernel | omega))
                refine V_aload_n 0 d_Mod_readLine_111 rfl rfl ?_
                refine N_getK fa_Mod_102 sk_116 rfl d_Mod_readLine_112 o1003K ?_
                refine V_if_le 119 o1003E d_Mod_readLine_115 (by decide) (fun c1011 => ?_) (fun c1011 => ?_)
                ·
                  refine V_aload_n 0 d_Mod_readLine_119 rfl rfl ?_
                  refine V_iload_n 1 d_Mod_readLine_120 rfl rfl ?_
                  obtain ⟨z1012, z1012Z, z1012E, z1012e⟩ : ∃ (y : Int32) (Y : Int), y.toInt = Y ∧ y = h995.1 120 2 := ⟨_, _, rfl, rfl⟩
                  obtain ⟨z1013, z1013Z, z1013E, z1013e⟩ : ∃ (y : Int32) (Y : Int), y.toInt = Y ∧ y = h995.1 116 13 := ⟨_, _, rfl, rfl⟩
                  refine N_callVV [.int 6] [] cv_Mod_177 sk_116 rfl d_Mod_readLine_121 rfl (Nat.le_of_ble_eq_true rfl) (by decide) (by decide) (c_Mod_readLineOfX_6 h995 b T D (x_en b p0) hI997 s sZ sE (kn_call fh995 (kn_call fh981 (kn_call fh972 sK rfl) rfl) rfl) o999 o999Z o999E o999K o1000 o1000Z o1000E o1000K o1001 o1001Z o1001E o1001K o1002 o1002Z o1002E o1002K o1003 o1003Z o1003E o1003K o1004 o1004Z o1004E o1004K z1012 z1012Z z1012E z1012e.symm z1013 z1013Z z1013E z1013e.symm (TP_fr f998 (fun _ => rfl) hy0) (by (first | decide +kernel | omega)) (lx_of p996 (by (first | decide +kernel | omega))) R1005) (fun h1015 p1016 => ?_)
                  obtain ⟨hI1017, fh1015, o1019, o1019Z, o1019E, o1019K, o1020, o1020Z, o1020E, o1020K, o1021, o1021Z, o1021E, o1021K, o1022, o1022Z, o1022E, o1022K, o1023, o1023Z, o1023E, o1023K, o1024, o1024Z, o1024E, o1024K, p1016⟩ := p1016
                  have f1018 : fr S_Mod_readLineX h h1015 := fr_call f998 fh1015 rfl
                  have g1025 : 0 ≤ o1019Z ∧ o1019Z ≤ 160 := inv_at hI1017 o1019E o1019K.symm rfl
                  have g1026 : 0 ≤ o1020Z ∧ o1020Z ≤ 160 := inv_at hI1017 o1020E o1020K.symm rfl
                  rcases (dj2 _ : o1023Z ≠ 0 ∨ o1023Z = 0) with c1027 | c1027
                  ·
                    obtain ⟨hq0, hq⟩ := p1016.1.resolve_right (fun q => absurd q.1 c1027)
                    replace p1016 := p1016.2
                    refine V_aload_n 0 d_Mod_readLine_124 rfl rfl ?_
                    refine N_getK fa_Mod_102 sk_116 rfl d_Mod_readLine_125 o1023K ?_
                    refine V_if_ne 149 o1023E d_Mod_readLine_128 (by decide) (fun c1028 => ?_) (fun c1028 => ?_)
                    ·
                      refine V_aload_n 0 d_Mod_readLine_149 rfl rfl ?_
                      refine N_callVV [] [] cv_Mod_152 sk_116 rfl d_Mod_readLine_150 rfl (Nat.le_of_ble_eq_true rfl) (by decide) (by decide) (c_Mod_nextX h1015 b hI1017 s sZ sE (kn_call fh1015 (kn_call fh995 (kn_call fh981 (kn_call fh972 sK rfl) rfl) rfl) rfl) o1019 o1019Z o1019E o1019K o1020 o1020Z o1020E o1020K o1021 o1021Z o1021E o1021K o1022 o1022Z o1022E o1022K o1023 o1023Z o1023E o1023K o1024 o1024Z o1024E o1024K (TP_fr f1018 (fun _ => rfl) hy0) (by (first | decide +kernel | omega))) (fun h1030 p1031 => ?_)
                      obtain ⟨hI1032, fh1030, o1034, o1034Z, o1034E, o1034K, o1035, o1035Z, o1035E, o1035K, o1036, o1036Z, o1036E, o1036K, o1037, o1037Z, o1037E, o1037K, o1038, o1038Z, o1038E, o1038K, o1039, o1039Z, o1039E, o1039K, p1031⟩ := p1031
                      have f1033 : fr S_Mod_readLineX h h1030 := fr_call f1018 fh1030 rfl
                      have g1040 : 0 ≤ o1034Z ∧ o1034Z ≤ 160 := inv_at hI1032 o1034E o1034K.symm rfl
                      have g1041 : 0 ≤ o1035Z ∧ o1035Z ≤ 160 := inv_at hI1032 o1035E o1035K.symm rfl
                      replace p1031 := p1031.resolve_right (fun q => by (first | decide +kernel | omega))
                      exact V_vret rfl d_Mod_readLine_153 ⟨rfl, ⟨hI1032, f1033, o1034, o1034Z, o1034E, o1034K, o1035, o1035Z, o1035E, o1035K, o1036, o1036Z, o1036E, o1036K, o1037, o1037Z, o1037E, o1037K, o1038, o1038Z, o1038E, o1038K, o1039, o1039Z, o1039E, o1039K, ⟨Or.inl ⟨by (first | decide +kernel | omega), (x_line_3 rfl hH hL).trans (hq.trans (pq (by (first | decide +kernel | omega)) (by (first | decide +kernel | omega))))⟩, by (first | decide +kernel | omega), by (first | decide +kernel | omega), by (first | decide +kernel | omega)⟩⟩⟩
                    ·
                      exact absurd c1028 (by (first | decide +kernel | omega))
                  ·
                    obtain ⟨p10160, hl, p1016X, p1016R⟩ := p1016.1.resolve_left (fun q => absurd c1027 q.1)
                    replace p1016 := p1016.2
                    refine V_aload_n 0 d_Mod_readLine_124 rfl rfl ?_
                    refine N_getK fa_Mod_102 sk_116 rfl d_Mod_readLine_125 o1023K ?_
                    refine V_if_ne 149 o1023E d_Mod_readLine_128 (by decide) (fun c1042 => ?_) (fun c1042 => ?_)
                    ·
                      exact absurd c1042 (by (first | decide +kernel | omega))
                    ·
                      refine V_aload_n 0 d_Mod_readLine_131 rfl rfl ?_
                      refine V_aload_n 0 d_Mod_readLine_132 rfl rfl ?_
                      refine N_getK fa_Mod_130 sk_116 rfl d_Mod_readLine_133 o1021K ?_
                      refine V_iconst 3 d_Mod_readLine_136 (by decide) ?_
                      refine V_icmp_ne 144 o1021E tc_3 d_Mod_readLine_137 (by decide) (fun c1043 => ?_) (fun c1043 => ?_)
                      ·
                        have g1044 := x_cS_s b (x_en b (x_en b (x_en b p0)))
                        refine V_iconst 0 d_Mod_readLine_144 (by decide) ?_
                        refine V_iconst 2 d_Mod_readLine_145 (by decide) ?_
                        refine N_callVV [.int 0, .int 2] [] cv_Mod_144 sk_116 rfl d_Mod_readLine_146 rfl (Nat.le_of_ble_eq_true rfl) (by decide) (by decide) (c_Mod_needsX h1015 hI1017 0 0 tc_0 2 2 tc_2 o1020 o1020Z o1020E o1020K o1023 o1023Z o1023E o1023K o1024 o1024Z o1024E o1024K) (fun h1046 p1047 => ?_)
                        obtain ⟨hI1048, fh1046, o1050, o1050Z, o1050E, o1050K, o1051, o1051Z, o1051E, o1051K, p1047⟩ := p1047
                        have f1049 : fr S_Mod_readLineX h h1046 := fr_call f1018 fh1046 rfl
                        replace p1047 := (p1047.resolve_left (fun q => by (first | decide +kernel | omega))).2.2
                        refine V_aload_n 0 d_Mod_readLine_149 rfl rfl ?_
                        refine N_callVV [] [] cv_Mod_152 sk_116 rfl d_Mod_readLine_150 rfl (Nat.le_of_ble_eq_true rfl) (by decide) (by decide) (c_Mod_nextX h1046 b hI1048 s sZ sE (kn_call fh1046 (kn_call fh1015 (kn_call fh995 (kn_call fh981 (kn_call fh972 sK rfl) rfl) rfl) rfl) rfl) o1019 o1019Z o1019E (kn_call fh1046 o1019K rfl) o1020 o1020Z o1020E (kn_call fh1046 o1020K rfl) o1021 o1021Z o1021E (kn_call fh1046 o1021K rfl) o1022 o1022Z o1022E (kn_call fh1046 o1022K rfl) o1050 o1050Z o1050E o1050K o1051 o1051Z o1051E o1051K (TP_fr f1049 (fun _ => rfl) hy0) (by (first | decide +kernel | omega))) (fun h1053 p1054 => ?_)
                        obtain ⟨hI1055, fh1053, o1057, o1057Z, o1057E, o1057K, o1058, o1058Z, o1058E, o1058K, o1059, o1059Z, o1059E, o1059K, o1060, o1060Z, o1060E, o1060K, o1061, o1061Z, o1061E, o1061K, o1062, o1062Z, o1062E, o1062K, p1054⟩ := p1054
                        have f1056 : fr S_Mod_readLineX h h1053 := fr_call f1049 fh1053 rfl
                        have g1063 : 0 ≤ o1057Z ∧ o1057Z ≤ 160 := inv_at hI1055 o1057E o1057K.symm rfl
                        have g1064 : 0 ≤ o1058Z ∧ o1058Z ≤ 160 := inv_at hI1055 o1058E o1058K.symm rfl
                        replace p1054 := p1054.resolve_right (fun q => by (first | decide +kernel | omega))
                        exact V_vret rfl d_Mod_readLine_153 ⟨rfl, ⟨hI1055, f1056, o1057, o1057Z, o1057E, o1057K, o1058, o1058Z, o1058E, o1058K, o1059, o1059Z, o1059E, o1059K, o1060, o1060Z, o1060E, o1060K, o1061, o1061Z, o1061E, o1061K, o1062, o1062Z, o1062E, o1062K, ⟨Or.inl ⟨by (first | decide +kernel | omega), (x_line_3 rfl hH hL).trans (hl.trans ((x_sq_y (by (first | decide +kernel | omega))).trans (pq (by (first | decide +kernel | omega)) (by (first | decide +kernel | omega)))))⟩, by (first | decide +kernel | omega), by (first | decide +kernel | omega), by (first | decide +kernel | omega)⟩⟩⟩
                      ·
                        refine V_iconst 1 d_Mod_readLine_140 (by decide) ?_
                        refine V_goto 145 d_Mod_readLine_141 (by decide) ?_
                        refine V_iconst 2 d_Mod_readLine_145 (by decide) ?_
                        refine N_callVV [.int 1, .int 2] [] cv_Mod_144 sk_116 rfl d_Mod_readLine_146 rfl (Nat.le_of_ble_eq_true rfl) (by decide) (by decide) (c_Mod_needsX h1015 hI1017 1 1 tc_1 2 2 tc_2 o1020 o1020Z o1020E o1020K o1023 o1023Z o1023E o1023K o1024 o1024Z o1024E o1024K) (fun h1066 p1067 => ?_)
                        obtain ⟨hI1068, fh1066, o1070, o1070Z, o1070E, o1070K, o1071, o1071Z, o1071E, o1071K, p1067⟩ := p1067
                        have f1069 : fr S_Mod_readLineX h h1066 := fr_call f1018 fh1066 rfl
                        have R1072 : RM h1066 (x_upT T 3 (x_vl b (x_en b p0))) (x_up D (32 + (x_vl b (x_en b p0))) (x_vl b (x_en b (x_en b p0)))) := RM_fr fh1066 rfl p1016R
                        replace p1067 := (p1067.resolve_right (fun q => by (first | decide +kernel | omega))).2
                        have hS9 : x_cS b (x_en b (x_en b (x_en b p0))) = 0 := cS_of (by (first | decide +kernel | omega))
                        have hmo := And.intro (x_fr_ge b p0) (And.intro (x_en_ge b (x_en b p0)) (x_en_ge b (x_en b (x_en b p0))))
                        refine V_aload_n 0 d_Mod_readLine_149 rfl rfl ?_
                        refine N_callVV [] [] cv_Mod_152 sk_116 rfl d_Mod_readLine_150 rfl (Nat.le_of_ble_eq_true rfl) (by decide) (by decide) (c_Mod_nextX h1066 b hI1068 s sZ sE (kn_call fh1066 (kn_call fh1015 (kn_call fh995 (kn_call fh981 (kn_call fh972 sK rfl) rfl) rfl) rfl) rfl) o1019 o1019Z o1019E (kn_call fh1066 o1019K rfl) o1020 o1020Z o1020E (kn_call fh1066 o1020K rfl) o1021 o1021Z o1021E (kn_call fh1066 o1021K rfl) o1022 o1022Z o1022E (kn_call fh1066 o1022K rfl) o1070 o1070Z o1070E o1070K o1071 o1071Z o1071E o1071K (TP_fr f1069 (fun _ => rfl) hy0) (by (first | decide +kernel | omega))) (fun h1074 p1075 => ?_)
                        obtain ⟨hI1076, fh1074, o1078, o1078Z, o1078E, o1078K, o1079, o1079Z, o1079E, o1079K, o1080, o1080Z, o1080E, o1080K, o1081, o1081Z, o1081E, o1081K, o1082, o1082Z, o1082E, o1082K, o1083, o1083Z, o1083E, o1083K, p1075⟩ := p1075
                        have f1077 : fr S_Mod_readLineX h h1074 := fr_call f1069 fh1074 rfl
                        have R1084 : RM h1074 (x_upT T 3 (x_vl b (x_en b p0))) (x_up D (32 + (x_vl b (x_en b p0))) (x_vl b (x_en b (x_en b p0)))) := RM_fr fh1074 rfl R1072
                        have g1085 : 0 ≤ o1078Z ∧ o1078Z ≤ 160 := inv_at hI1076 o1078E o1078K.symm rfl
                        have g1086 : 0 ≤ o1079Z ∧ o1079Z ≤ 160 := inv_at hI1076 o1079E o1079K.symm rfl
                        replace p1075 := p1075.resolve_left (fun q => by (first | decide +kernel | omega))
                        exact V_vret rfl d_Mod_readLine_153 ⟨rfl, ⟨hI1076, f1077, o1078, o1078Z, o1078E, o1078K, o1079, o1079Z, o1079E, o1079K, o1080, o1080Z, o1080E, o1080K, o1081, o1081Z, o1081E, o1081K, o1082, o1082Z, o1082E, o1082K, o1083, o1083Z, o1083E, o1083K, ⟨Or.inr ⟨x_en b (x_en b (x_en b (x_en b p0))), (x_line_3 rfl hH hL).trans (hl.trans (x_sq_n (by (first | decide +kernel | omega)))), by (first | decide +kernel | omega), by (first | decide +kernel | omega), (by rw [x_T_3 T (u := x_en b p0) rfl hL, x_D_3 D (u := x_en b p0) rfl hL]; exact R1084), nx_e p1075 (by (first | decide +kernel | omega))⟩, by (first | decide +kernel | omega), by (first | decide +kernel | omega), by (first | decide +kernel | omega)⟩⟩⟩
                ·
                  exact absurd c1011 (by (first | decide +kernel | omega))
            ·
              exact absurd c989 (by decide)
        ·
          exact absurd c979 (by decide)
    ·
      obtain rfl : z41 = 7 := (ti_eq z41E tc_7).mpr c44
      subst c44
      have hL : x_li b p0 = 4 := by (first | decide +kernel | omega)
      clear p43
      refine V_aload_n 0 d_Mod_readLine_18 rfl rfl ?_
      refine V_iload_n 1 d_Mod_readLine_19 rfl rfl ?_
      refine V_bipush (-4) d_Mod_readLine_20 (by decide) ?_
      refine V_icmp_eq 29 tc_7 tc_m4 d_Mod_readLine_22 (by decide) (fun c1087 => ?_) (fun c1087 => ?_)
      ·
        exact absurd c1087 (by decide)
      ·
        refine V_iconst 1 d_Mod_readLine_25 (by decide) ?_
        refine V_goto 30 d_Mod_readLine_26 (by decide) ?_
        refine V_iconst 2 d_Mod_readLine_30 (by decide) ?_
        refine N_callVV [.int 1, .int 2] [] cv_Mod_144 sk_116 rfl d_Mod_readLine_31 rfl (Nat.le_of_ble_eq_true rfl) (by decide) (by decide) (c_Mod_needsX h hI 1 1 tc_1 2 2 tc_2 g gZ gE gK w wZ wE wK a aZ aE aK) (fun h1089 p1090 => ?_)
        obtain ⟨hI1091, fh1089, o1093, o1093Z, o1093E, o1093K, o1094, o1094Z, o1094E, o1094K, p1090⟩ := p1090
        have f1092 : fr S_Mod_readLineX h h1089 := fr_call f0 fh1089 rfl
        have R1095 : RM h1089 T D := RM_fr fh1089 rfl hy3
        replace p1090 := (p1090.resolve_right (fun q => by (first | decide +kernel | omega))).2
        refine V_aload_n 0 d_Mod_readLine_34 rfl rfl ?_
        refine V_iload_n 1 d_Mod_readLine_35 rfl rfl ?_
        refine V_bipush 9 d_Mod_readLine_36 (by decide) ?_
        refine V_icmp_ne 53 tc_7 tc_9 d_Mod_readLine_38 (by decide) (fun c1096 => ?_) (fun c1096 => ?_)
        ·
          refine V_iconst 1 d_Mod_readLine_53 (by decide) ?_
          refine V_goto 58 d_Mod_readLine_54 (by decide) ?_
          refine V_iconst 5 d_Mod_readLine_58 (by decide) ?_
          refine N_callVV [.int 1, .int 5] [] cv_Mod_144 sk_116 rfl d_Mod_readLine_59 rfl (Nat.le_of_ble_eq_true rfl) (by decide) (by decide) (c_Mod_needsX h1089 hI1091 1 1 tc_1 5 5 tc_5 g gZ gE (kn_call fh1089 gK rfl) o1093 o1093Z o1093E o1093K o1094 o1094Z o1094E o1094K) (fun h1098 p1099 => ?_)
          obtain ⟨hI1100, fh1098, o1102, o1102Z, o1102E, o1102K, o1103, o1103Z, o1103E, o1103K, p1099⟩ := p1099
          have f1101 : fr S_Mod_readLineX h h1098 := fr_call f1092 fh1098 rfl
          have R1104 : RM h1098 T D := RM_fr fh1098 rfl R1095
          replace p1099 := (p1099.resolve_right (fun q => by (first | decide +kernel | omega))).2
          refine V_aload_n 0 d_Mod_readLine_62 rfl rfl ?_
          refine N_getK fa_Mod_102 sk_116 rfl d_Mod_readLine_63 o1102K ?_
          refine V_if_ne 107 o1102E d_Mod_readLine_66 (by decide) (fun c1105 => ?_) (fun c1105 => ?_)
          ·
            exact absurd c1105 (by (first | decide +kernel | omega))
          ·
            refine V_iload_n 1 d_Mod_readLine_69 rfl rfl ?_
            refine V_iconst 3 d_Mod_readLine_70 (by decide) ?_
            refine V_icmp_gt 107 tc_7 tc_3 d_Mod_readLine_71 (by decide) (fun c1106 => ?_) (fun c1106 => ?_)
            ·
              have g1107 : x_fr b pZ = x_fr b (x_en b p0) := congrArg (x_fr b) (by (first | decide +kernel | omega))
              have g1108 : x_kd b pZ = x_kd b (x_en b p0) := congrArg (x_kd b) (by (first | decide +kernel | omega))
              have g1109 : x_en b pZ = x_en b (x_en b p0) := congrArg (x_en b) (by (first | decide +kernel | omega))
              have g1110 : x_vl b pZ = x_vl b (x_en b p0) := congrArg (x_vl b) (by (first | decide +kernel | omega))
              refine V_aload_n 0 d_Mod_readLine_107 rfl rfl ?_
              refine N_callVV [] [] cv_Mod_152 sk_116 rfl d_Mod_readLine_108 rfl (Nat.le_of_ble_eq_true rfl) (by decide) (by decide) (c_Mod_nextX h1098 b hI1100 s sZ sE (kn_call fh1098 (kn_call fh1089 sK rfl) rfl) p pZ pE (kn_call fh1098 (kn_call fh1089 pK rfl) rfl) g gZ gE (kn_call fh1098 (kn_call fh1089 gK rfl) rfl) k kZ kE (kn_call fh1098 (kn_call fh1089 kK rfl) rfl) v vZ vE (kn_call fh1098 (kn_call fh1089 vK rfl) rfl) o1102 o1102Z o1102E o1102K o1103 o1103Z o1103E o1103K (TP_fr f1101 (fun _ => rfl) hy0) (by (first | decide +kernel | omega))) (fun h1112 p1113 => ?_)
              obtain ⟨hI1114, fh1112, o1116, o1116Z, o1116E, o1116K, o1117, o1117Z, o1117E, o1117K, o1118, o1118Z, o1118E, o1118K, o1119, o1119Z, o1119E, o1119K, o1120, o1120Z, o1120E, o1120K, o1121, o1121Z, o1121E, o1121K, p1113⟩ := p1113
              have f1115 : fr S_Mod_readLineX h h1112 := fr_call f1101 fh1112 rfl
              have R1122 : RM h1112 T D := RM_fr fh1112 rfl R1104
              have g1123 : 0 ≤ o1116Z ∧ o1116Z ≤ 160 := inv_at hI1114 o1116E o1116K.symm rfl
              have g1124 : 0 ≤ o1117Z ∧ o1117Z ≤ 160 := inv_at hI1114 o1117E o1117K.symm rfl
              rcases (dj2 _ : o1120Z ≠ 0 ∨ o1120Z = 0) with c1125 | c1125
              ·
                replace p1113 := nx_1 (p1113.resolve_left (fun q => by (first | decide +kernel | omega))) c1125
                have hH : x_cH b T (D 86) p0 = 0 := cH_0 (by (first | decide +kernel | omega)) (by (first | decide +kernel | omega)) (by rw [hL]; omega) (by (first | decide +kernel | omega))
                have g1126 := x_cN_s b (x_en b p0) 0 15
                refine V_aload_n 0 d_Mod_readLine_111 rfl rfl ?_
                refine N_getK fa_Mod_102 sk_116 rfl d_Mod_readLine_112 o1120K ?_
                refine V_if_le 119 o1120E d_Mod_readLine_115 (by decide) (fun c1127 => ?_) (fun c1127 => ?_)
                ·
                  exact absurd c1127 (by (first | decide +kernel | omega))
                ·
                  exact V_vret rfl d_Mod_readLine_118 ⟨rfl, ⟨hI1114, f1115, o1116, o1116Z, o1116E, o1116K, o1117, o1117Z, o1117E, o1117K, o1118, o1118Z, o1118E, o1118K, o1119, o1119Z, o1119E, o1119K, o1120, o1120Z, o1120E, o1120K, o1121, o1121Z, o1121E, o1121K, ⟨Or.inl ⟨by (first | decide +kernel | omega), (x_line_4 rfl hH hL).trans ((show x_l4 b T (x_en b p0) = (x_cN b (x_en b p0) 0 15, x_fr b (x_en b p0)) from by unfold x_l4; rw [x_sq_y (c := x_cN b (x_en b p0) 0 15) (by (first | decide +kernel | omega))]).trans (pq (by (first | decide +kernel | omega)) (by (first | decide +kernel | omega))))⟩, by (first | decide +kernel | omega), by (first | decide +kernel | omega), by (first | decide +kernel | omega)⟩⟩⟩
              ·
                replace p1113 := nx_0 (p1113.resolve_left (fun q => by (first | decide +kernel | omega))) c1125
                have hH : x_cH b T (D 86) p0 = 0 := cH_0 (by (first | decide +kernel | omega)) (by (first | decide +kernel | omega)) (by rw [hL]; omega) (by (first | decide +kernel | omega))
                refine V_aload_n 0 d_Mod_readLine_111 rfl rfl ?_
                refine N_getK fa_Mod_102 sk_116 rfl d_Mod_readLine_112 o1120K ?_
                refine V_if_le 119 o1120E d_Mod_readLine_115 (by decide) (fun c1128 => ?_) (fun c1128 => ?_)
                ·
                  refine V_aload_n 0 d_Mod_readLine_119 rfl rfl ?_
                  refine V_iload_n 1 d_Mod_readLine_120 rfl rfl ?_
                  obtain ⟨z1129, z1129Z, z1129E, z1129e⟩ : ∃ (y : Int32) (Y : Int), y.toInt = Y ∧ y = h1112.1 120 3 := ⟨_, _, rfl, rfl⟩
                  obtain ⟨z1130, z1130Z, z1130E, z1130e⟩ : ∃ (y : Int32) (Y : Int), y.toInt = Y ∧ y = h1112.1 116 13 := ⟨_, _, rfl, rfl⟩
                  refine N_callVV [.int 7] [] cv_Mod_177 sk_116 rfl d_Mod_readLine_121 rfl (Nat.le_of_ble_eq_true rfl) (by decide) (by decide) (c_Mod_readLineOfX_7 h1112 b T D (x_en b p0) hI1114 s sZ sE (kn_call fh1112 (kn_call fh1098 (kn_call fh1089 sK rfl) rfl) rfl) o1116 o1116Z o1116E o1116K o1117 o1117Z o1117E o1117K o1118 o1118Z o1118E o1118K o1119 o1119Z o1119E o1119K o1120 o1120Z o1120E o1120K o1121 o1121Z o1121E o1121K z1129 z1129Z z1129E z1129e.symm z1130 z1130Z z1130E z1130e.symm (TP_fr f1115 (fun _ => rfl) hy0) (by (first | decide +kernel | omega)) (lx_of p1113 (by (first | decide +kernel | omega))) R1122) (fun h1132 p1133 => ?_)
                  obtain ⟨hI1134, fh1132, o1136, o1136Z, o1136E, o1136K, o1137, o1137Z, o1137E, o1137K, o1138, o1138Z, o1138E, o1138K, o1139, o1139Z, o1139E, o1139K, o1140, o1140Z, o1140E, o1140K, o1141, o1141Z, o1141E, o1141K, p1133⟩ := p1133
                  have f1135 : fr S_Mod_readLineX h h1132 := fr_call f1115 fh1132 rfl
                  have g1142 : 0 ≤ o1136Z ∧ o1136Z ≤ 160 := inv_at hI1134 o1136E o1136K.symm rfl
                  have g1143 : 0 ≤ o1137Z ∧ o1137Z ≤ 160 := inv_at hI1134 o1137E o1137K.symm rfl
                  rcases (dj2 _ : o1140Z ≠ 0 ∨ o1140Z = 0) with c1144 | c1144
                  ·
                    obtain ⟨hq0, hq⟩ := p1133.1.resolve_right (fun q => absurd q.1 c1144)
                    replace p1133 := p1133.2
                    refine V_aload_n 0 d_Mod_readLine_124 rfl rfl ?_
                    refine N_getK fa_Mod_102 sk_116 rfl d_Mod_readLine_125 o1140K ?_
                    refine V_if_ne 149 o1140E d_Mod_readLine_128 (by decide) (fun c1145 => ?_) (fun c1145 => ?_)
                    ·
                      refine V_aload_n 0 d_Mod_readLine_149 rfl rfl ?_
                      refine N_callVV [] [] cv_Mod_152 sk_116 rfl d_Mod_readLine_150 rfl (Nat.le_of_ble_eq_true rfl) (by decide) (by decide) (c_Mod_nextX h1132 b hI1134 s sZ sE (kn_call fh1132 (kn_call fh1112 (kn_call fh1098 (kn_call fh1089 sK rfl) rfl) rfl) rfl) o1136 o1136Z o1136E o1136K o1137 o1137Z o1137E o1137K o1138 o1138Z o1138E o1138K o1139 o1139Z o1139E o1139K o1140 o1140Z o1140E o1140K o1141 o1141Z o1141E o1141K (TP_fr f1135 (fun _ => rfl) hy0) (by (first | decide +kernel | omega))) (fun h1147 p1148 => ?_)
                      obtain ⟨hI1149, fh1147, o1151, o1151Z, o1151E, o1151K, o1152, o1152Z, o1152E, o1152K, o1153, o1153Z, o1153E, o1153K, o1154, o1154Z, o1154E, o1154K, o1155, o1155Z, o1155E, o1155K, o1156, o1156Z, o1156E, o1156K, p1148⟩ := p1148
                      have f1150 : fr S_Mod_readLineX h h1147 := fr_call f1135 fh1147 rfl
                      have g1157 : 0 ≤ o1151Z ∧ o1151Z ≤ 160 := inv_at hI1149 o1151E o1151K.symm rfl
                      have g1158 : 0 ≤ o1152Z ∧ o1152Z ≤ 160 := inv_at hI1149 o1152E o1152K.symm rfl
                      replace p1148 := p1148.resolve_right (fun q => by (first | decide +kernel | omega))
                      exact V_vret rfl d_Mod_readLine_153 ⟨rfl, ⟨hI1149, f1150, o1151, o1151Z, o1151E, o1151K, o1152, o1152Z, o1152E, o1152K, o1153, o1153Z, o1153E, o1153K, o1154, o1154Z, o1154E, o1154K, o1155, o1155Z, o1155E, o1155K, o1156, o1156Z, o1156E, o1156K, ⟨Or.inl ⟨by (first | decide +kernel | omega), (x_line_4 rfl hH hL).trans (hq.trans (pq (by (first | decide +kernel | omega)) (by (first | decide +kernel | omega))))⟩, by (first | decide +kernel | omega), by (first | decide +kernel | omega), by (first | decide +kernel | omega)⟩⟩⟩
                    ·
                      exact absurd c1145 (by (first | decide +kernel | omega))
                  ·
                    obtain ⟨p11330, hl, p1133X, p1133R⟩ := p1133.1.resolve_left (fun q => absurd c1144 q.1)
                    replace p1133 := p1133.2
                    refine V_aload_n 0 d_Mod_readLine_124 rfl rfl ?_
                    refine N_getK fa_Mod_102 sk_116 rfl d_Mod_readLine_125 o1140K ?_
                    refine V_if_ne 149 o1140E d_Mod_readLine_128 (by decide) (fun c1159 => ?_) (fun c1159 => ?_)
                    ·
                      exact absurd c1159 (by (first | decide +kernel | omega))
                    ·
                      refine V_aload_n 0 d_Mod_readLine_131 rfl rfl ?_
                      refine V_aload_n 0 d_Mod_readLine_132 rfl rfl ?_
                      refine N_getK fa_Mod_130 sk_116 rfl d_Mod_readLine_133 o1138K ?_
                      refine V_iconst 3 d_Mod_readLine_136 (by decide) ?_
                      refine V_icmp_ne 144 o1138E tc_3 d_Mod_readLine_137 (by decide) (fun c1160 => ?_) (fun c1160 => ?_)
                      ·
                        have g1161 := x_cS_s b (x_en b (x_en b (x_en b p0)))
                        refine V_iconst 0 d_Mod_readLine_144 (by decide) ?_
                        refine V_iconst 2 d_Mod_readLine_145 (by decide) ?_
                        refine N_callVV [.int 0, .int 2] [] cv_Mod_144 sk_116 rfl d_Mod_readLine_146 rfl (Nat.le_of_ble_eq_true rfl) (by decide) (by decide) (c_Mod_needsX h1132 hI1134 0 0 tc_0 2 2 tc_2 o1137 o1137Z o1137E o1137K o1140 o1140Z o1140E o1140K o1141 o1141Z o1141E o1141K) (fun h1163 p1164 => ?_)
                        obtain ⟨hI1165, fh1163, o1167, o1167Z, o1167E, o1167K, o1168, o1168Z, o1168E, o1168K, p1164⟩ := p1164
                        have f1166 : fr S_Mod_readLineX h h1163 := fr_call f1135 fh1163 rfl
                        replace p1164 := (p1164.resolve_left (fun q => by (first | decide +kernel | omega))).2.2
                        refine V_aload_n 0 d_Mod_readLine_149 rfl rfl ?_
                        refine N_callVV [] [] cv_Mod_152 sk_116 rfl d_Mod_readLine_150 rfl (Nat.le_of_ble_eq_true rfl) (by decide) (by decide) (c_Mod_nextX h1163 b hI1165 s sZ sE (kn_call fh1163 (kn_call fh1132 (kn_call fh1112 (kn_call fh1098 (kn_call fh1089 sK rfl) rfl) rfl) rfl) rfl) o1136 o1136Z o1136E (kn_call fh1163 o1136K rfl) o1137 o1137Z o1137E (kn_call fh1163 o1137K rfl) o1138 o1138Z o1138E (kn_call fh1163 o1138K rfl) o1139 o1139Z o1139E (kn_call fh1163 o1139K rfl) o1167 o1167Z o1167E o1167K o1168 o1168Z o1168E o1168K (TP_fr f1166 (fun _ => rfl) hy0) (by (first | decide +kernel | omega))) (fun h1170 p1171 => ?_)
                        obtain ⟨hI1172, fh1170, o1174, o1174Z, o1174E, o1174K, o1175, o1175Z, o1175E, o1175K, o1176, o1176Z, o1176E, o1176K, o1177, o1177Z, o1177E, o1177K, o1178, o1178Z, o1178E, o1178K, o1179, o1179Z, o1179E, o1179K, p1171⟩ := p1171
                        have f1173 : fr S_Mod_readLineX h h1170 := fr_call f1166 fh1170 rfl
                        have g1180 : 0 ≤ o1174Z ∧ o1174Z ≤ 160 := inv_at hI1172 o1174E o1174K.symm rfl
                        have g1181 : 0 ≤ o1175Z ∧ o1175Z ≤ 160 := inv_at hI1172 o1175E o1175K.symm rfl
                        replace p1171 := p1171.resolve_right (fun q => by (first | decide +kernel | omega))
                        exact V_vret rfl d_Mod_readLine_153 ⟨rfl, ⟨hI1172, f1173, o1174, o1174Z, o1174E, o1174K, o1175, o1175Z, o1175E, o1175K, o1176, o1176Z, o1176E, o1176K, o1177, o1177Z, o1177E, o1177K, o1178, o1178Z, o1178E, o1178K, o1179, o1179Z, o1179E, o1179K, ⟨Or.inl ⟨by (first | decide +kernel | omega), (x_line_4 rfl hH hL).trans (hl.trans ((x_sq_y (by (first | decide +kernel | omega))).trans (pq (by (first | decide +kernel | omega)) (by (first | decide +kernel | omega)))))⟩, by (first | decide +kernel | omega), by (first | decide +kernel | omega), by (first | decide +kernel | omega)⟩⟩⟩
                      ·
                        refine V_iconst 1 d_Mod_readLine_140 (by decide) ?_
                        refine V_goto 145 d_Mod_readLine_141 (by decide) ?_
                        refine V_iconst 2 d_Mod_readLine_145 (by decide) ?_
                        refine N_callVV [.int 1, .int 2] [] cv_Mod_144 sk_116 rfl d_Mod_readLine_146 rfl (Nat.le_of_ble_eq_true rfl) (by decide) (by decide) (c_Mod_needsX h1132 hI1134 1 1 tc_1 2 2 tc_2 o1137 o1137Z o1137E o1137K o1140 o1140Z o1140E o1140K o1141 o1141Z o1141E o1141K) (fun h1183 p1184 => ?_)
                        obtain ⟨hI1185, fh1183, o1187, o1187Z, o1187E, o1187K, o1188, o1188Z, o1188E, o1188K, p1184⟩ := p1184
                        have f1186 : fr S_Mod_readLineX h h1183 := fr_call f1135 fh1183 rfl
                        have R1189 : RM h1183 (x_upT T 4 (x_vl b (x_en b p0))) (x_up D (48 + (x_vl b (x_en b p0))) (x_vl b (x_en b (x_en b p0)))) := RM_fr fh1183 rfl p1133R
                        replace p1184 := (p1184.resolve_right (fun q => by (first | decide +kernel | omega))).2
                        have hS9 : x_cS b (x_en b (x_en b (x_en b p0))) = 0 := cS_of (by (first | decide +kernel | omega))
                        have hmo := And.intro (x_fr_ge b p0) (And.intro (x_en_ge b (x_en b p0)) (x_en_ge b (x_en b (x_en b p0))))
                        refine V_aload_n 0 d_Mod_readLine_149 rfl rfl ?_
                        refine N_callVV [] [] cv_Mod_152 sk_116 rfl d_Mod_readLine_150 rfl (Nat.le_of_ble_eq_true rfl) (by decide) (by decide) (c_Mod_nextX h1183 b hI1185 s sZ sE (kn_call fh1183 (kn_call fh1132 (kn_call fh1112 (kn_call fh1098 (kn_call fh1089 sK rfl) rfl) rfl) rfl) rfl) o1136 o1136Z o1136E (kn_call fh1183 o1136K rfl) o1137 o1137Z o1137E (kn_call fh1183 o1137K rfl) o1138 o1138Z o1138E (kn_call fh1183 o1138K rfl) o1139 o1139Z o1139E (kn_call fh1183 o1139K rfl) o1187 o1187Z o1187E o1187K o1188 o1188Z o1188E o1188K (TP_fr f1186 (fun _ => rfl) hy0) (by (first | decide +kernel | omega))) (fun h1191 p1192 => ?_)
                        obtain ⟨hI1193, fh1191, o1195, o1195Z, o1195E, o1195K, o1196, o1196Z, o1196E, o1196K, o1197, o1197Z, o1197E, o1197K, o1198, o1198Z, o1198E, o1198K, o1199, o1199Z, o1199E, o1199K, o1200, o1200Z, o1200E, o1200K, p1192⟩ := p1192
                        have f1194 : fr S_Mod_readLineX h h1191 := fr_call f1186 fh1191 rfl
                        have R1201 : RM h1191 (x_upT T 4 (x_vl b (x_en b p0))) (x_up D (48 + (x_vl b (x_en b p0))) (x_vl b (x_en b (x_en b p0)))) := RM_fr fh1191 rfl R1189
                        have g1202 : 0 ≤ o1195Z ∧ o1195Z ≤ 160 := inv_at hI1193 o1195E o1195K.symm rfl
                        have g1203 : 0 ≤ o1196Z ∧ o1196Z ≤ 160 := inv_at hI1193 o1196E o1196K.symm rfl
                        replace p1192 := p1192.resolve_left (fun q => by (first | decide +kernel | omega))
                        exact V_vret rfl d_Mod_readLine_153 ⟨rfl, ⟨hI1193, f1194, o1195, o1195Z, o1195E, o1195K, o1196, o1196Z, o1196E, o1196K, o1197, o1197Z, o1197E, o1197K, o1198, o1198Z, o1198E, o1198K, o1199, o1199Z, o1199E, o1199K, o1200, o1200Z, o1200E, o1200K, ⟨Or.inr ⟨x_en b (x_en b (x_en b (x_en b p0))), (x_line_4 rfl hH hL).trans (hl.trans (x_sq_n (by (first | decide +kernel | omega)))), by (first | decide +kernel | omega), by (first | decide +kernel | omega), (by rw [x_T_4 T (u := x_en b p0) rfl hL, x_D_4 D (u := x_en b p0) rfl hL]; exact R1201), nx_e p1192 (by (first | decide +kernel | omega))⟩, by (first | decide +kernel | omega), by (first | decide +kernel | omega), by (first | decide +kernel | omega)⟩⟩⟩
                ·
                  exact absurd c1128 (by (first | decide +kernel | omega))
            ·
              exact absurd c1106 (by decide)
        ·
          exact absurd c1096 (by decide)
    ·
      obtain rfl : z41 = 8 := (ti_eq z41E tc_8).mpr c44
      subst c44
      have hL : x_li b p0 = 5 := by (first | decide +kernel | omega)
      clear p43
      refine V_aload_n 0 d_Mod_readLine_18 rfl rfl ?_
      refine V_iload_n 1 d_Mod_readLine_19 rfl rfl ?_
      refine V_bipush (-4) d_Mod_readLine_20 (by decide) ?_
      refine V_icmp_eq 29 tc_8 tc_m4 d_Mod_readLine_22 (by decide) (fun c1204 => ?_) (fun c1204 => ?_)
      ·
        exact absurd c1204 (by decide)
      ·
        refine V_iconst 1 d_Mod_readLine_25 (by decide) ?_
        refine V_goto 30 d_Mod_readLine_26 (by decide) ?_
        refine V_iconst 2 d_Mod_readLine_30 (by decide) ?_
        refine N_callVV [.int 1, .int 2] [] cv_Mod_144 sk_116 rfl d_Mod_readLine_31 rfl (Nat.le_of_ble_eq_true rfl) (by decide) (by decide) (c_Mod_needsX h hI 1 1 tc_1 2 2 tc_2 g gZ gE gK w wZ wE wK a aZ aE aK) (fun h1206 p1207 => ?_)
        obtain ⟨hI1208, fh1206, o1210, o1210Z, o1210E, o1210K, o1211, o1211Z, o1211E, o1211K, p1207⟩ := p1207
        have f1209 : fr S_Mod_readLineX h h1206 := fr_call f0 fh1206 rfl
        have R1212 : RM h1206 T D := RM_fr fh1206 rfl hy3
        replace p1207 := (p1207.resolve_right (fun q => by (first | decide +kernel | omega))).2
        refine V_aload_n 0 d_Mod_readLine_34 rfl rfl ?_
        refine V_iload_n 1 d_Mod_readLine_35 rfl rfl ?_
        refine V_bipush 9 d_Mod_readLine_36 (by decide) ?_
        refine V_icmp_ne 53 tc_8 tc_9 d_Mod_readLine_38 (by decide) (fun c1213 => ?_) (fun c1213 => ?_)
        ·
          refine V_iconst 1 d_Mod_readLine_53 (by decide) ?_
          refine V_goto 58 d_Mod_readLine_54 (by decide) ?_
          refine V_iconst 5 d_Mod_readLine_58 (by decide) ?_
          refine N_callVV [.int 1, .int 5] [] cv_Mod_144 sk_116 rfl d_Mod_readLine_59 rfl (Nat.le_of_ble_eq_true rfl) (by decide) (by decide) (c_Mod_needsX h1206 hI1208 1 1 tc_1 5 5 tc_5 g gZ gE (kn_call fh1206 gK rfl) o1210 o1210Z o1210E o1210K o1211 o1211Z o1211E o1211K) (fun h1215 p1216 => ?_)
          obtain ⟨hI1217, fh1215, o1219, o1219Z, o1219E, o1219K, o1220, o1220Z, o1220E, o1220K, p1216⟩ := p1216
          have f1218 : fr S_Mod_readLineX h h1215 := fr_call f1209 fh1215 rfl
          have R1221 : RM h1215 T D := RM_fr fh1215 rfl R1212
          replace p1216 := (p1216.resolve_right (fun q => by (first | decide +kernel | omega))).2
          refine V_aload_n 0 d_Mod_readLine_62 rfl rfl ?_
          refine N_getK fa_Mod_102 sk_116 rfl d_Mod_readLine_63 o1219K ?_
          refine V_if_ne 107 o1219E d_Mod_readLine_66 (by decide) (fun c1222 => ?_) (fun c1222 => ?_)
          ·
            exact absurd c1222 (by (first | decide +kernel | omega))
          ·
            refine V_iload_n 1 d_Mod_readLine_69 rfl rfl ?_
            refine V_iconst 3 d_Mod_readLine_70 (by decide) ?_
            refine V_icmp_gt 107 tc_8 tc_3 d_Mod_readLine_71 (by decide) (fun c1223 => ?_) (fun c1223 => ?_)
            ·
              have g1224 : x_fr b pZ = x_fr b (x_en b p0) := congrArg (x_fr b) (by (first | decide +kernel | omega))
              have g1225 : x_kd b pZ = x_kd b (x_en b p0) := congrArg (x_kd b) (by (first | decide +kernel | omega))
              have g1226 : x_en b pZ = x_en b (x_en b p0) := congrArg (x_en b) (by (first | decide +kernel | omega))
              have g1227 : x_vl b pZ = x_vl b (x_en b p0) := congrArg (x_vl b) (by (first | decide +kernel | omega))
              refine V_aload_n 0 d_Mod_readLine_107 rfl rfl ?_
              refine N_callVV [] [] cv_Mod_152 sk_116 rfl d_Mod_readLine_108 rfl (Nat.le_of_ble_eq_true rfl) (by decide) (by decide) (c_Mod_nextX h1215 b hI1217 s sZ sE (kn_call fh1215 (kn_call fh1206 sK rfl) rfl) p pZ pE (kn_call fh1215 (kn_call fh1206 pK rfl) rfl) g gZ gE (kn_call fh1215 (kn_call fh1206 gK rfl) rfl) k kZ kE (kn_call fh1215 (kn_call fh1206 kK rfl) rfl) v vZ vE (kn_call fh1215 (kn_call fh1206 vK rfl) rfl) o1219 o1219Z o1219E o1219K o1220 o1220Z o1220E o1220K (TP_fr f1218 (fun _ => rfl) hy0) (by (first | decide +kernel | omega))) (fun h1229 p1230 => ?_)
              obtain ⟨hI1231, fh1229, o1233, o1233Z, o1233E, o1233K, o1234, o1234Z, o1234E, o1234K, o1235, o1235Z, o1235E, o1235K, o1236, o1236Z, o1236E, o1236K, o1237, o1237Z, o1237E, o1237K, o1238, o1238Z, o1238E, o1238K, p1230⟩ := p1230
              have f1232 : fr S_Mod_readLineX h h1229 := fr_call f1218 fh1229 rfl
              have R1239 : RM h1229 T D := RM_fr fh1229 rfl R1221
              have g1240 : 0 ≤ o1233Z ∧ o1233Z ≤ 160 := inv_at hI1231 o1233E o1233K.symm rfl
              have g1241 : 0 ≤ o1234Z ∧ o1234Z ≤ 160 := inv_at hI1231 o1234E o1234K.symm rfl
              rcases (dj2 _ : o1237Z ≠ 0 ∨ o1237Z = 0) with c1242 | c1242
              ·
                replace p1230 := nx_1 (p1230.resolve_left (fun q => by (first | decide +kernel | omega))) c1242
                have hH : x_cH b T (D 86) p0 = 0 := cH_0 (by (first | decide +kernel | omega)) (by (first | decide +kernel | omega)) (by rw [hL]; omega) (by (first | decide +kernel | omega))
                have g1243 := x_cN_s b (x_en b p0) 0 3
                refine V_aload_n 0 d_Mod_readLine_111 rfl rfl ?_
                refine N_getK fa_Mod_102 sk_116 rfl d_Mod_readLine_112 o1237K ?_
                refine V_if_le 119 o1237E d_Mod_readLine_115 (by decide) (fun c1244 => ?_) (fun c1244 => ?_)
                ·
                  exact absurd c1244 (by (first | decide +kernel | omega))
                ·
                  exact V_vret rfl d_Mod_readLine_118 ⟨rfl, ⟨hI1231, f1232, o1233, o1233Z, o1233E, o1233K, o1234, o1234Z, o1234E, o1234K, o1235, o1235Z, o1235E, o1235K, o1236, o1236Z, o1236E, o1236K, o1237, o1237Z, o1237E, o1237K, o1238, o1238Z, o1238E, o1238K, ⟨Or.inl ⟨by (first | decide +kernel | omega), (x_line_5 rfl hH hL).trans ((show x_l5 b T (x_en b p0) = (x_cN b (x_en b p0) 0 3, x_fr b (x_en b p0)) from by unfold x_l5; rw [x_sq_y (c := x_cN b (x_en b p0) 0 3) (by (first | decide +kernel | omega))]).trans (pq (by (first | decide +kernel | omega)) (by (first | decide +kernel | omega))))⟩, by (first | decide +kernel | omega), by (first | decide +kernel | omega), by (first | decide +kernel | omega)⟩⟩⟩
              ·
                replace p1230 := nx_0 (p1230.resolve_left (fun q => by (first | decide +kernel | omega))) c1242
                have hH : x_cH b T (D 86) p0 = 0 := cH_0 (by (first | decide +kernel | omega)) (by (first | decide +kernel | omega)) (by rw [hL]; omega) (by (first | decide +kernel | omega))
                refine V_aload_n 0 d_Mod_readLine_111 rfl rfl ?_
                refine N_getK fa_Mod_102 sk_116 rfl d_Mod_readLine_112 o1237K ?_
                refine V_if_le 119 o1237E d_Mod_readLine_115 (by decide) (fun c1245 => ?_) (fun c1245 => ?_)
                ·
                  refine V_aload_n 0 d_Mod_readLine_119 rfl rfl ?_
                  refine V_iload_n 1 d_Mod_readLine_120 rfl rfl ?_
                  obtain ⟨z1246, z1246Z, z1246E, z1246e⟩ : ∃ (y : Int32) (Y : Int), y.toInt = Y ∧ y = h1229.1 120 4 := ⟨_, _, rfl, rfl⟩
                  obtain ⟨z1247, z1247Z, z1247E, z1247e⟩ : ∃ (y : Int32) (Y : Int), y.toInt = Y ∧ y = h1229.1 116 13 := ⟨_, _, rfl, rfl⟩
                  refine N_callVV [.int 8] [] cv_Mod_177 sk_116 rfl d_Mod_readLine_121 rfl (Nat.le_of_ble_eq_true rfl) (by decide) (by decide) (c_Mod_readLineOfX_8 h1229 b T D (x_en b p0) hI1231 s sZ sE (kn_call fh1229 (kn_call fh1215 (kn_call fh1206 sK rfl) rfl) rfl) o1233 o1233Z o1233E o1233K o1234 o1234Z o1234E o1234K o1235 o1235Z o1235E o1235K o1236 o1236Z o1236E o1236K o1237 o1237Z o1237E o1237K o1238 o1238Z o1238E o1238K z1246 z1246Z z1246E z1246e.symm z1247 z1247Z z1247E z1247e.symm (TP_fr f1232 (fun _ => rfl) hy0) (by (first | decide +kernel | omega)) (lx_of p1230 (by (first | decide +kernel | omega))) R1239) (fun h1249 p1250 => ?_)
                  obtain ⟨hI1251, fh1249, o1253, o1253Z, o1253E, o1253K, o1254, o1254Z, o1254E, o1254K, o1255, o1255Z, o1255E, o1255K, o1256, o1256Z, o1256E, o1256K, o1257, o1257Z, o1257E, o1257K, o1258, o1258Z, o1258E, o1258K, p1250⟩ := p1250
                  have f1252 : fr S_Mod_readLineX h h1249 := fr_call f1232 fh1249 rfl
                  have g1259 : 0 ≤ o1253Z ∧ o1253Z ≤ 160 := inv_at hI1251 o1253E o1253K.symm rfl
                  have g1260 : 0 ≤ o1254Z ∧ o1254Z ≤ 160 := inv_at hI1251 o1254E o1254K.symm rfl
                  rcases (dj2 _ : o1257Z ≠ 0 ∨ o1257Z = 0) with c1261 | c1261
                  ·
                    obtain ⟨hq0, hq⟩ := p1250.1.resolve_right (fun q => absurd q.1 c1261)
                    replace p1250 := p1250.2
                    refine V_aload_n 0 d_Mod_readLine_124 rfl rfl ?_
                    refine N_getK fa_Mod_102 sk_116 rfl d_Mod_readLine_125 o1257K ?_
                    refine V_if_ne 149 o1257E d_Mod_readLine_128 (by decide) (fun c1262 => ?_) (fun c1262 => ?_)
                    ·
                      refine V_aload_n 0 d_Mod_readLine_149 rfl rfl ?_
                      refine N_callVV [] [] cv_Mod_152 sk_116 rfl d_Mod_readLine_150 rfl (Nat.le_of_ble_eq_true rfl) (by decide) (by decide) (c_Mod_nextX h1249 b hI1251 s sZ sE (kn_call fh1249 (kn_call fh1229 (kn_call fh1215 (kn_call fh1206 sK rfl) rfl) rfl) rfl) o1253 o1253Z o1253E o1253K o1254 o1254Z o1254E o1254K o1255 o1255Z o1255E o1255K o1256 o1256Z o1256E o1256K o1257 o1257Z o1257E o1257K o1258 o1258Z o1258E o1258K (TP_fr f1252 (fun _ => rfl) hy0) (by (first | decide +kernel | omega))) (fun h1264 p1265 => ?_)
                      obtain ⟨hI1266, fh1264, o1268, o1268Z, o1268E, o1268K, o1269, o1269Z, o1269E, o1269K, o1270, o1270Z, o1270E, o1270K, o1271, o1271Z, o1271E, o1271K, o1272, o1272Z, o1272E, o1272K, o1273, o1273Z, o1273E, o1273K, p1265⟩ := p1265
                      have f1267 : fr S_Mod_readLineX h h1264 := fr_call f1252 fh1264 rfl
                      have g1274 : 0 ≤ o1268Z ∧ o1268Z ≤ 160 := inv_at hI1266 o1268E o1268K.symm rfl
                      have g1275 : 0 ≤ o1269Z ∧ o1269Z ≤ 160 := inv_at hI1266 o1269E o1269K.symm rfl
                      replace p1265 := p1265.resolve_right (fun q => by (first | decide +kernel | omega))
                      exact V_vret rfl d_Mod_readLine_153 ⟨rfl, ⟨hI1266, f1267, o1268, o1268Z, o1268E, o1268K, o1269, o1269Z, o1269E, o1269K, o1270, o1270Z, o1270E, o1270K, o1271, o1271Z, o1271E, o1271K, o1272, o1272Z, o1272E, o1272K, o1273, o1273Z, o1273E, o1273K, ⟨Or.inl ⟨by (first | decide +kernel | omega), (x_line_5 rfl hH hL).trans (hq.trans (pq (by (first | decide +kernel | omega)) (by (first | decide +kernel | omega))))⟩, by (first | decide +kernel | omega), by (first | decide +kernel | omega), by (first | decide +kernel | omega)⟩⟩⟩
                    ·
                      exact absurd c1262 (by (first | decide +kernel | omega))
                  ·
                    obtain ⟨p12500, hl, p1250X, p1250R⟩ := p1250.1.resolve_left (fun q => absurd c1261 q.1)
                    replace p1250 := p1250.2
                    refine V_aload_n 0 d_Mod_readLine_124 rfl rfl ?_
                    refine N_getK fa_Mod_102 sk_116 rfl d_Mod_readLine_125 o1257K ?_
                    refine V_if_ne 149 o1257E d_Mod_readLine_128 (by decide) (fun c1276 => ?_) (fun c1276 => ?_)
                    ·
                      exact absurd c1276 (by (first | decide +kernel | omega))
                    ·
                      refine V_aload_n 0 d_Mod_readLine_131 rfl rfl ?_
                      refine V_aload_n 0 d_Mod_readLine_132 rfl rfl ?_
                      refine N_getK fa_Mod_130 sk_116 rfl d_Mod_readLine_133 o1255K ?_
                      refine V_iconst 3 d_Mod_readLine_136 (by decide) ?_
                      refine V_icmp_ne 144 o1255E tc_3 d_Mod_readLine_137 (by decide) (fun c1277 => ?_) (fun c1277 => ?_)
                      ·
                        have g1278 := x_cS_s b (x_en b (x_en b (x_en b p0)))
                        refine V_iconst 0 d_Mod_readLine_144 (by decide) ?_
                        refine V_iconst 2 d_Mod_readLine_145 (by decide) ?_
                        refine N_callVV [.int 0, .int 2] [] cv_Mod_144 sk_116 rfl d_Mod_readLine_146 rfl (Nat.le_of_ble_eq_true rfl) (by decide) (by decide) (c_Mod_needsX h1249 hI1251 0 0 tc_0 2 2 tc_2 o1254 o1254Z o1254E o1254K o1257 o1257Z o1257E o1257K o1258 o1258Z o1258E o1258K) (fun h1280 p1281 => ?_)
                        obtain ⟨hI1282, fh1280, o1284, o1284Z, o1284E, o1284K, o1285, o1285Z, o1285E, o1285K, p1281⟩ := p1281
                        have f1283 : fr S_Mod_readLineX h h1280 := fr_call f1252 fh1280 rfl
                        replace p1281 := (p1281.resolve_left (fun q => by (first | decide +kernel | omega))).2.2
                        refine V_aload_n 0 d_Mod_readLine_149 rfl rfl ?_
                        refine N_callVV [] [] cv_Mod_152 sk_116 rfl d_Mod_readLine_150 rfl (Nat.le_of_ble_eq_true rfl) (by decide) (by decide) (c_Mod_nextX h1280 b hI1282 s sZ sE (kn_call fh1280 (kn_call fh1249 (kn_call fh1229 (kn_call fh1215 (kn_call fh1206 sK rfl) rfl) rfl) rfl) rfl) o1253 o1253Z o1253E (kn_call fh1280 o1253K rfl) o1254 o1254Z o1254E (kn_call fh1280 o1254K rfl) o1255 o1255Z o1255E (kn_call fh1280 o1255K rfl) o1256 o1256Z o1256E (kn_call fh1280 o1256K rfl) o1284 o1284Z o1284E o1284K o1285 o1285Z o1285E o1285K (TP_fr f1283 (fun _ => rfl) hy0) (by (first | decide +kernel | omega))) (fun h1287 p1288 => ?_)
                        obtain ⟨hI1289, fh1287, o1291, o1291Z, o1291E, o1291K, o1292, o1292Z, o1292E, o1292K, o1293, o1293Z, o1293E, o1293K, o1294, o1294Z, o1294E, o1294K, o1295, o1295Z, o1295E, o1295K, o1296, o1296Z, o1296E, o1296K, p1288⟩ := p1288
                        have f1290 : fr S_Mod_readLineX h h1287 := fr_call f1283 fh1287 rfl
                        have g1297 : 0 ≤ o1291Z ∧ o1291Z ≤ 160 := inv_at hI1289 o1291E o1291K.symm rfl
                        have g1298 : 0 ≤ o1292Z ∧ o1292Z ≤ 160 := inv_at hI1289 o1292E o1292K.symm rfl
                        replace p1288 := p1288.resolve_right (fun q => by (first | decide +kernel | omega))
                        exact V_vret rfl d_Mod_readLine_153 ⟨rfl, ⟨hI1289, f1290, o1291, o1291Z, o1291E, o1291K, o1292, o1292Z, o1292E, o1292K, o1293, o1293Z, o1293E, o1293K, o1294, o1294Z, o1294E, o1294K, o1295, o1295Z, o1295E, o1295K, o1296, o1296Z, o1296E, o1296K, ⟨Or.inl ⟨by (first | decide +kernel | omega), (x_line_5 rfl hH hL).trans (hl.trans ((x_sq_y (by (first | decide +kernel | omega))).trans (pq (by (first | decide +kernel | omega)) (by (first | decide +kernel | omega)))))⟩, by (first | decide +kernel | omega), by (first | decide +kernel | omega), by (first | decide +kernel | omega)⟩⟩⟩
                      ·
                        refine V_iconst 1 d_Mod_readLine_140 (by decide) ?_
                        refine V_goto 145 d_Mod_readLine_141 (by decide) ?_
                        refine V_iconst 2 d_Mod_readLine_145 (by decide) ?_
                        refine N_callVV [.int 1, .int 2] [] cv_Mod_144 sk_116 rfl d_Mod_readLine_146 rfl (Nat.le_of_ble_eq_true rfl) (by decide) (by decide) (c_Mod_needsX h1249 hI1251 1 1 tc_1 2 2 tc_2 o1254 o1254Z o1254E o1254K o1257 o1257Z o1257E o1257K o1258 o1258Z o1258E o1258K) (fun h1300 p1301 => ?_)
                        obtain ⟨hI1302, fh1300, o1304, o1304Z, o1304E, o1304K, o1305, o1305Z, o1305E, o1305K, p1301⟩ := p1301
                        have f1303 : fr S_Mod_readLineX h h1300 := fr_call f1252 fh1300 rfl
                        have R1306 : RM h1300 (x_upT T 5 (x_vl b (x_en b p0))) (x_up D (80 + (x_vl b (x_en b p0))) (x_vl b (x_en b (x_en b p0)))) := RM_fr fh1300 rfl p1250R
                        replace p1301 := (p1301.resolve_right (fun q => by (first | decide +kernel | omega))).2
                        have hS9 : x_cS b (x_en b (x_en b (x_en b p0))) = 0 := cS_of (by (first | decide +kernel | omega))
                        have hmo := And.intro (x_fr_ge b p0) (And.intro (x_en_ge b (x_en b p0)) (x_en_ge b (x_en b (x_en b p0))))
                        refine V_aload_n 0 d_Mod_readLine_149 rfl rfl ?_
                        refine N_callVV [] [] cv_Mod_152 sk_116 rfl d_Mod_readLine_150 rfl (Nat.le_of_ble_eq_true rfl) (by decide) (by decide) (c_Mod_nextX h1300 b hI1302 s sZ sE (kn_call fh1300 (kn_call fh1249 (kn_call fh1229 (kn_call fh1215 (kn_call fh1206 sK rfl) rfl) rfl) rfl) rfl) o1253 o1253Z o1253E (kn_call fh1300 o1253K rfl) o1254 o1254Z o1254E (kn_call fh1300 o1254K rfl) o1255 o1255Z o1255E (kn_call fh1300 o1255K rfl) o1256 o1256Z o1256E (kn_call fh1300 o1256K rfl) o1304 o1304Z o1304E o1304K o1305 o1305Z o1305E o1305K (TP_fr f1303 (fun _ => rfl) hy0) (by (first | decide +kernel | omega))) (fun h1308 p1309 => ?_)
                        obtain ⟨hI1310, fh1308, o1312, o1312Z, o1312E, o1312K, o1313, o1313Z, o1313E, o1313K, o1314, o1314Z, o1314E, o1314K, o1315, o1315Z, o1315E, o1315K, o1316, o1316Z, o1316E, o1316K, o1317, o1317Z, o1317E, o1317K, p1309⟩ := p1309
                        have f1311 : fr S_Mod_readLineX h h1308 := fr_call f1303 fh1308 rfl
                        have R1318 : RM h1308 (x_upT T 5 (x_vl b (x_en b p0))) (x_up D (80 + (x_vl b (x_en b p0))) (x_vl b (x_en b (x_en b p0)))) := RM_fr fh1308 rfl R1306
                        have g1319 : 0 ≤ o1312Z ∧ o1312Z ≤ 160 := inv_at hI1310 o1312E o1312K.symm rfl
                        have g1320 : 0 ≤ o1313Z ∧ o1313Z ≤ 160 := inv_at hI1310 o1313E o1313K.symm rfl
                        replace p1309 := p1309.resolve_left (fun q => by (first | decide +kernel | omega))
                        exact V_vret rfl d_Mod_readLine_153 ⟨rfl, ⟨hI1310, f1311, o1312, o1312Z, o1312E, o1312K, o1313, o1313Z, o1313E, o1313K, o1314, o1314Z, o1314E, o1314K, o1315, o1315Z, o1315E, o1315K, o1316, o1316Z, o1316E, o1316K, o1317, o1317Z, o1317E, o1317K, ⟨Or.inr ⟨x_en b (x_en b (x_en b (x_en b p0))), (x_line_5 rfl hH hL).trans (hl.trans (x_sq_n (by (first | decide +kernel | omega)))), by (first | decide +kernel | omega), by (first | decide +kernel | omega), (by rw [x_T_5 T (u := x_en b p0) rfl hL, x_D_5 D (u := x_en b p0) rfl hL]; exact R1318), nx_e p1309 (by (first | decide +kernel | omega))⟩, by (first | decide +kernel | omega), by (first | decide +kernel | omega), by (first | decide +kernel | omega)⟩⟩⟩
                ·
                  exact absurd c1245 (by (first | decide +kernel | omega))
            ·
              exact absurd c1223 (by decide)
        ·
          exact absurd c1213 (by decide)
    ·
      obtain rfl : z41 = 9 := (ti_eq z41E tc_9).mpr c44
      subst c44
      have hL : x_li b p0 = 9 := by (first | decide +kernel | omega)
      clear p43
      refine V_aload_n 0 d_Mod_readLine_18 rfl rfl ?_
      refine V_iload_n 1 d_Mod_readLine_19 rfl rfl ?_
      refine V_bipush (-4) d_Mod_readLine_20 (by decide) ?_
      refine V_icmp_eq 29 tc_9 tc_m4 d_Mod_readLine_22 (by decide) (fun c1321 => ?_) (fun c1321 => ?_)
      ·
        exact absurd c1321 (by decide)
      ·
        refine V_iconst 1 d_Mod_readLine_25 (by decide) ?_
        refine V_goto 30 d_Mod_readLine_26 (by decide) ?_
        refine V_iconst 2 d_Mod_readLine_30 (by decide) ?_
        refine N_callVV [.int 1, .int 2] [] cv_Mod_144 sk_116 rfl d_Mod_readLine_31 rfl (Nat.le_of_ble_eq_true rfl) (by decide) (by decide) (c_Mod_needsX h hI 1 1 tc_1 2 2 tc_2 g gZ gE gK w wZ wE wK a aZ aE aK) (fun h1323 p1324 => ?_)
        obtain ⟨hI1325, fh1323, o1327, o1327Z, o1327E, o1327K, o1328, o1328Z, o1328E, o1328K, p1324⟩ := p1324
        have f1326 : fr S_Mod_readLineX h h1323 := fr_call f0 fh1323 rfl
        have R1329 : RM h1323 T D := RM_fr fh1323 rfl hy3
        replace p1324 := (p1324.resolve_right (fun q => by (first | decide +kernel | omega))).2
        refine V_aload_n 0 d_Mod_readLine_34 rfl rfl ?_
        refine V_iload_n 1 d_Mod_readLine_35 rfl rfl ?_
        refine V_bipush 9 d_Mod_readLine_36 (by decide) ?_
        refine V_icmp_ne 53 tc_9 tc_9 d_Mod_readLine_38 (by decide) (fun c1330 => ?_) (fun c1330 => ?_)
        ·
          exact absurd c1330 (by decide)
        ·
          refine V_aload_n 0 d_Mod_readLine_41 rfl rfl ?_
          refine V_getR fa_Mod_17 sk_116 rfl d_Mod_readLine_42 ?_
          refine V_bipush 86 d_Mod_readLine_45 (by decide) ?_
          refine N_ialdK sk_119 tc_86 (by (first | decide +kernel | omega)) d_Mod_readLine_47 (kn_call fh1323 mK rfl) ?_
          refine V_bipush 8 d_Mod_readLine_48 (by decide) ?_
          refine V_icmp_ge 57 mE tc_8 d_Mod_readLine_50 (by decide) (fun c1332 => ?_) (fun c1332 => ?_)
          ·
            refine V_iconst 0 d_Mod_readLine_57 (by decide) ?_
            refine V_iconst 5 d_Mod_readLine_58 (by decide) ?_
            refine N_callVV [.int 0, .int 5] [] cv_Mod_144 sk_116 rfl d_Mod_readLine_59 rfl (Nat.le_of_ble_eq_true rfl) (by decide) (by decide) (c_Mod_needsX h1323 hI1325 0 0 tc_0 5 5 tc_5 g gZ gE (kn_call fh1323 gK rfl) o1327 o1327Z o1327E o1327K o1328 o1328Z o1328E o1328K) (fun h1334 p1335 => ?_)
            obtain ⟨hI1336, fh1334, o1338, o1338Z, o1338E, o1338K, o1339, o1339Z, o1339E, o1339K, p1335⟩ := p1335
            have f1337 : fr S_Mod_readLineX h h1334 := fr_call f1326 fh1334 rfl
            replace p1335 := (p1335.resolve_left (fun q => by (first | decide +kernel | omega))).2.2
            refine V_aload_n 0 d_Mod_readLine_62 rfl rfl ?_
            refine N_getK fa_Mod_102 sk_116 rfl d_Mod_readLine_63 o1338K ?_
            refine V_if_ne 107 o1338E d_Mod_readLine_66 (by decide) (fun c1340 => ?_) (fun c1340 => ?_)
            ·
              have g1341 : x_fr b pZ = x_fr b (x_en b p0) := congrArg (x_fr b) (by (first | decide +kernel | omega))
              have g1342 : x_kd b pZ = x_kd b (x_en b p0) := congrArg (x_kd b) (by (first | decide +kernel | omega))
              have g1343 : x_en b pZ = x_en b (x_en b p0) := congrArg (x_en b) (by (first | decide +kernel | omega))
              have g1344 : x_vl b pZ = x_vl b (x_en b p0) := congrArg (x_vl b) (by (first | decide +kernel | omega))
              refine V_aload_n 0 d_Mod_readLine_107 rfl rfl ?_
              refine N_callVV [] [] cv_Mod_152 sk_116 rfl d_Mod_readLine_108 rfl (Nat.le_of_ble_eq_true rfl) (by decide) (by decide) (c_Mod_nextX h1334 b hI1336 s sZ sE (kn_call fh1334 (kn_call fh1323 sK rfl) rfl) p pZ pE (kn_call fh1334 (kn_call fh1323 pK rfl) rfl) g gZ gE (kn_call fh1334 (kn_call fh1323 gK rfl) rfl) k kZ kE (kn_call fh1334 (kn_call fh1323 kK rfl) rfl) v vZ vE (kn_call fh1334 (kn_call fh1323 vK rfl) rfl) o1338 o1338Z o1338E o1338K o1339 o1339Z o1339E o1339K (TP_fr f1337 (fun _ => rfl) hy0) (by (first | decide +kernel | omega))) (fun h1346 p1347 => ?_)
              obtain ⟨hI1348, fh1346, o1350, o1350Z, o1350E, o1350K, o1351, o1351Z, o1351E, o1351K, o1352, o1352Z, o1352E, o1352K, o1353, o1353Z, o1353E, o1353K, o1354, o1354Z, o1354E, o1354K, o1355, o1355Z, o1355E, o1355K, p1347⟩ := p1347
              have f1349 : fr S_Mod_readLineX h h1346 := fr_call f1337 fh1346 rfl
              have g1356 : 0 ≤ o1350Z ∧ o1350Z ≤ 160 := inv_at hI1348 o1350E o1350K.symm rfl
              have g1357 : 0 ≤ o1351Z ∧ o1351Z ≤ 160 := inv_at hI1348 o1351E o1351K.symm rfl
              replace p1347 := p1347.resolve_right (fun q => by (first | decide +kernel | omega))
              refine V_aload_n 0 d_Mod_readLine_111 rfl rfl ?_
              refine N_getK fa_Mod_102 sk_116 rfl d_Mod_readLine_112 o1354K ?_
              refine V_if_le 119 o1354E d_Mod_readLine_115 (by decide) (fun c1358 => ?_) (fun c1358 => ?_)
              ·
                exact absurd c1358 (by (first | decide +kernel | omega))
              ·
                exact V_vret rfl d_Mod_readLine_118 ⟨rfl, ⟨hI1348, f1349, o1350, o1350Z, o1350E, o1350K, o1351, o1351Z, o1351E, o1351K, o1352, o1352Z, o1352E, o1352K, o1353, o1353Z, o1353E, o1353K, o1354, o1354Z, o1354E, o1354K, o1355, o1355Z, o1355E, o1355K, ⟨Or.inl ⟨by (first | decide +kernel | omega), (by have hc9 : x_cH b T (D 86) p0 = 5 := cH_5 (by (first | decide +kernel | omega)) (by (first | decide +kernel | omega)) (by (first | decide +kernel | omega)); exact (x_line_H (by rw [hc9]; decide)).trans (pq (by rw [hc9]; omega) (by (first | decide +kernel | omega))))⟩, by (first | decide +kernel | omega), by (first | decide +kernel | omega), by (first | decide +kernel | omega)⟩⟩⟩
            ·
              exact absurd c1340 (by (first | decide +kernel | omega))
          ·
            refine V_iconst 1 d_Mod_readLine_53 (by decide) ?_
            refine V_goto 58 d_Mod_readLine_54 (by decide) ?_
            refine V_iconst 5 d_Mod_readLine_58 (by decide) ?_
            refine N_callVV [.int 1, .int 5] [] cv_Mod_144 sk_116 rfl d_Mod_readLine_59 rfl (Nat.le_of_ble_eq_true rfl) (by decide) (by decide) (c_Mod_needsX h1323 hI1325 1 1 tc_1 5 5 tc_5 g gZ gE (kn_call fh1323 gK rfl) o1327 o1327Z o1327E o1327K o1328 o1328Z o1328E o1328K) (fun h1360 p1361 => ?_)
            obtain ⟨hI1362, fh1360, o1364, o1364Z, o1364E, o1364K, o1365, o1365Z, o1365E, o1365K, p1361⟩ := p1361
            have f1363 : fr S_Mod_readLineX h h1360 := fr_call f1326 fh1360 rfl
            have R1366 : RM h1360 T D := RM_fr fh1360 rfl R1329
            replace p1361 := (p1361.resolve_right (fun q => by (first | decide +kernel | omega))).2
            refine V_aload_n 0 d_Mod_readLine_62 rfl rfl ?_
            refine N_getK fa_Mod_102 sk_116 rfl d_Mod_readLine_63 o1364K ?_
            refine V_if_ne 107 o1364E d_Mod_readLine_66 (by decide) (fun c1367 => ?_) (fun c1367 => ?_)
            ·
              exact absurd c1367 (by (first | decide +kernel | omega))
            ·
              refine V_iload_n 1 d_Mod_readLine_69 rfl rfl ?_
              refine V_iconst 3 d_Mod_readLine_70 (by decide) ?_
              refine V_icmp_gt 107 tc_9 tc_3 d_Mod_readLine_71 (by decide) (fun c1368 => ?_) (fun c1368 => ?_)
              ·
                have g1369 : x_fr b pZ = x_fr b (x_en b p0) := congrArg (x_fr b) (by (first | decide +kernel | omega))
                have g1370 : x_kd b pZ = x_kd b (x_en b p0) := congrArg (x_kd b) (by (first | decide +kernel | omega))
                have g1371 : x_en b pZ = x_en b (x_en b p0) := congrArg (x_en b) (by (first | decide +kernel | omega))
                have g1372 : x_vl b pZ = x_vl b (x_en b p0) := congrArg (x_vl b) (by (first | decide +kernel | omega))
                refine V_aload_n 0 d_Mod_readLine_107 rfl rfl ?_
                refine N_callVV [] [] cv_Mod_152 sk_116 rfl d_Mod_readLine_108 rfl (Nat.le_of_ble_eq_true rfl) (by decide) (by decide) (c_Mod_nextX h1360 b hI1362 s sZ sE (kn_call fh1360 (kn_call fh1323 sK rfl) rfl) p pZ pE (kn_call fh1360 (kn_call fh1323 pK rfl) rfl) g gZ gE (kn_call fh1360 (kn_call fh1323 gK rfl) rfl) k kZ kE (kn_call fh1360 (kn_call fh1323 kK rfl) rfl) v vZ vE (kn_call fh1360 (kn_call fh1323 vK rfl) rfl) o1364 o1364Z o1364E o1364K o1365 o1365Z o1365E o1365K (TP_fr f1363 (fun _ => rfl) hy0) (by (first | decide +kernel | omega))) (fun h1374 p1375 => ?_)
                obtain ⟨hI1376, fh1374, o1378, o1378Z, o1378E, o1378K, o1379, o1379Z, o1379E, o1379K, o1380, o1380Z, o1380E, o1380K, o1381, o1381Z, o1381E, o1381K, o1382, o1382Z, o1382E, o1382K, o1383, o1383Z, o1383E, o1383K, p1375⟩ := p1375
                have f1377 : fr S_Mod_readLineX h h1374 := fr_call f1363 fh1374 rfl
                have R1384 : RM h1374 T D := RM_fr fh1374 rfl R1366
                have g1385 : 0 ≤ o1378Z ∧ o1378Z ≤ 160 := inv_at hI1376 o1378E o1378K.symm rfl
                have g1386 : 0 ≤ o1379Z ∧ o1379Z ≤ 160 := inv_at hI1376 o1379E o1379K.symm rfl
                rcases (dj2 _ : o1382Z ≠ 0 ∨ o1382Z = 0) with c1387 | c1387
                ·
                  replace p1375 := nx_1 (p1375.resolve_left (fun q => by (first | decide +kernel | omega))) c1387
                  have hH : x_cH b T (D 86) p0 = 0 := cH_0 (by (first | decide +kernel | omega)) (by (first | decide +kernel | omega)) (by rw [hL]; omega) (by (first | decide +kernel | omega))
                  have g1388 := x_cN_s b (x_en b p0) 0 3
                  refine V_aload_n 0 d_Mod_readLine_111 rfl rfl ?_
                  refine N_getK fa_Mod_102 sk_116 rfl d_Mod_readLine_112 o1382K ?_
                  refine V_if_le 119 o1382E d_Mod_readLine_115 (by decide) (fun c1389 => ?_) (fun c1389 => ?_)
                  ·
                    exact absurd c1389 (by (first | decide +kernel | omega))
                  ·
                    exact V_vret rfl d_Mod_readLine_118 ⟨rfl, ⟨hI1376, f1377, o1378, o1378Z, o1378E, o1378K, o1379, o1379Z, o1379E, o1379K, o1380, o1380Z, o1380E, o1380K, o1381, o1381Z, o1381E, o1381K, o1382, o1382Z, o1382E, o1382K, o1383, o1383Z, o1383E, o1383K, ⟨Or.inl ⟨by (first | decide +kernel | omega), (x_line_9 rfl hH hL).trans ((show x_l9 b T (x_en b p0) = (x_cN b (x_en b p0) 0 3, x_fr b (x_en b p0)) from by unfold x_l9; rw [x_sq_y (c := x_cN b (x_en b p0) 0 3) (by (first | decide +kernel | omega))]).trans (pq (by (first | decide +kernel | omega)) (by (first | decide +kernel | omega))))⟩, by (first | decide +kernel | omega), by (first | decide +kernel | omega), by (first | decide +kernel | omega)⟩⟩⟩
                ·
                  replace p1375 := nx_0 (p1375.resolve_left (fun q => by (first | decide +kernel | omega))) c1387
                  have hH : x_cH b T (D 86) p0 = 0 := cH_0 (by (first | decide +kernel | omega)) (by (first | decide +kernel | omega)) (by rw [hL]; omega) (by (first | decide +kernel | omega))
                  refine V_aload_n 0 d_Mod_readLine_111 rfl rfl ?_
                  refine N_getK fa_Mod_102 sk_116 rfl d_Mod_readLine_112 o1382K ?_
                  refine V_if_le 119 o1382E d_Mod_readLine_115 (by decide) (fun c1390 => ?_) (fun c1390 => ?_)
                  ·
                    refine V_aload_n 0 d_Mod_readLine_119 rfl rfl ?_
                    refine V_iload_n 1 d_Mod_readLine_120 rfl rfl ?_
                    refine N_callVV [.int 9] [] cv_Mod_177 sk_116 rfl d_Mod_readLine_121 rfl (Nat.le_of_ble_eq_true rfl) (by decide) (by decide) (c_Mod_readLineOfX_9 h1374 b T D (x_en b p0) hI1376 s sZ sE (kn_call fh1374 (kn_call fh1360 (kn_call fh1323 sK rfl) rfl) rfl) o1378 o1378Z o1378E o1378K o1379 o1379Z o1379E o1379K o1380 o1380Z o1380E o1380K o1381 o1381Z o1381E o1381K o1382 o1382Z o1382E o1382K o1383 o1383Z o1383E o1383K m mZ mE (kn_call fh1374 (kn_call fh1360 (kn_call fh1323 mK rfl) rfl) rfl) (TP_fr f1377 (fun _ => rfl) hy0) (by (first | decide +kernel | omega)) (lx_of p1375 (by (first | decide +kernel | omega))) R1384 (by (first | decide +kernel | omega))) (fun h1392 p1393 => ?_)
                    obtain ⟨hI1394, fh1392, o1396, o1396Z, o1396E, o1396K, o1397, o1397Z, o1397E, o1397K, o1398, o1398Z, o1398E, o1398K, o1399, o1399Z, o1399E, o1399K, o1400, o1400Z, o1400E, o1400K, o1401, o1401Z, o1401E, o1401K, p1393⟩ := p1393
                    have f1395 : fr S_Mod_readLineX h h1392 := fr_call f1377 fh1392 rfl
                    have g1402 : 0 ≤ o1396Z ∧ o1396Z ≤ 160 := inv_at hI1394 o1396E o1396K.symm rfl
                    have g1403 : 0 ≤ o1397Z ∧ o1397Z ≤ 160 := inv_at hI1394 o1397E o1397K.symm rfl
                    rcases (dj2 _ : o1400Z ≠ 0 ∨ o1400Z = 0) with c1404 | c1404
                    ·
                      obtain ⟨hq0, hq⟩ := p1393.1.resolve_right (fun q => absurd q.1 c1404)
                      replace p1393 := p1393.2
                      refine V_aload_n 0 d_Mod_readLine_124 rfl rfl ?_
                      refine N_getK fa_Mod_102 sk_116 rfl d_Mod_readLine_125 o1400K ?_
                      refine V_if_ne 149 o1400E d_Mod_readLine_128 (by decide) (fun c1405 => ?_) (fun c1405 => ?_)
                      ·
                        refine V_aload_n 0 d_Mod_readLine_149 rfl rfl ?_
                        refine N_callVV [] [] cv_Mod_152 sk_116 rfl d_Mod_readLine_150 rfl (Nat.le_of_ble_eq_true rfl) (by decide) (by decide) (c_Mod_nextX h1392 b hI1394 s sZ sE (kn_call fh1392 (kn_call fh1374 (kn_call fh1360 (kn_call fh1323 sK rfl) rfl) rfl) rfl) o1396 o1396Z o1396E o1396K o1397 o1397Z o1397E o1397K o1398 o1398Z o1398E o1398K o1399 o1399Z o1399E o1399K o1400 o1400Z o1400E o1400K o1401 o1401Z o1401E o1401K (TP_fr f1395 (fun _ => rfl) hy0) (by (first | decide +kernel | omega))) (fun h1407 p1408 => ?_)
                        obtain ⟨hI1409, fh1407, o1411, o1411Z, o1411E, o1411K, o1412, o1412Z, o1412E, o1412K, o1413, o1413Z, o1413E, o1413K, o1414, o1414Z, o1414E, o1414K, o1415, o1415Z, o1415E, o1415K, o1416, o1416Z, o1416E, o1416K, p1408⟩ := p1408
                        have f1410 : fr S_Mod_readLineX h h1407 := fr_call f1395 fh1407 rfl
                        have g1417 : 0 ≤ o1411Z ∧ o1411Z ≤ 160 := inv_at hI1409 o1411E o1411K.symm rfl
                        have g1418 : 0 ≤ o1412Z ∧ o1412Z ≤ 160 := inv_at hI1409 o1412E o1412K.symm rfl
                        replace p1408 := p1408.resolve_right (fun q => by (first | decide +kernel | omega))
                        exact V_vret rfl d_Mod_readLine_153 ⟨rfl, ⟨hI1409, f1410, o1411, o1411Z, o1411E, o1411K, o1412, o1412Z, o1412E, o1412K, o1413, o1413Z, o1413E, o1413K, o1414, o1414Z, o1414E, o1414K, o1415, o1415Z, o1415E, o1415K, o1416, o1416Z, o1416E, o1416K, ⟨Or.inl ⟨by (first | decide +kernel | omega), (x_line_9 rfl hH hL).trans (hq.trans (pq (by (first | decide +kernel | omega)) (by (first | decide +kernel | omega))))⟩, by (first | decide +kernel | omega), by (first | decide +kernel | omega), by (first | decide +kernel | omega)⟩⟩⟩
                      ·
                        exact absurd c1405 (by (first | decide +kernel | omega))
                    ·
                      obtain ⟨p13930, hl, p1393X, p1393R⟩ := p1393.1.resolve_left (fun q => absurd c1404 q.1)
                      replace p1393 := p1393.2
                      refine V_aload_n 0 d_Mod_readLine_124 rfl rfl ?_
                      refine N_getK fa_Mod_102 sk_116 rfl d_Mod_readLine_125 o1400K ?_
                      refine V_if_ne 149 o1400E d_Mod_readLine_128 (by decide) (fun c1419 => ?_) (fun c1419 => ?_)
                      ·
                        exact absurd c1419 (by (first | decide +kernel | omega))
                      ·
                        refine V_aload_n 0 d_Mod_readLine_131 rfl rfl ?_
                        refine V_aload_n 0 d_Mod_readLine_132 rfl rfl ?_
                        refine N_getK fa_Mod_130 sk_116 rfl d_Mod_readLine_133 o1398K ?_
                        refine V_iconst 3 d_Mod_readLine_136 (by decide) ?_
                        refine V_icmp_ne 144 o1398E tc_3 d_Mod_readLine_137 (by decide) (fun c1420 => ?_) (fun c1420 => ?_)
                        ·
                          have g1421 := x_cS_s b (x_en b (x_en b (x_en b (x_en b p0))))
                          refine V_iconst 0 d_Mod_readLine_144 (by decide) ?_
                          refine V_iconst 2 d_Mod_readLine_145 (by decide) ?_
                          refine N_callVV [.int 0, .int 2] [] cv_Mod_144 sk_116 rfl d_Mod_readLine_146 rfl (Nat.le_of_ble_eq_true rfl) (by decide) (by decide) (c_Mod_needsX h1392 hI1394 0 0 tc_0 2 2 tc_2 o1397 o1397Z o1397E o1397K o1400 o1400Z o1400E o1400K o1401 o1401Z o1401E o1401K) (fun h1423 p1424 => ?_)
                          obtain ⟨hI1425, fh1423, o1427, o1427Z, o1427E, o1427K, o1428, o1428Z, o1428E, o1428K, p1424⟩ := p1424
                          have f1426 : fr S_Mod_readLineX h h1423 := fr_call f1395 fh1423 rfl
                          replace p1424 := (p1424.resolve_left (fun q => by (first | decide +kernel | omega))).2.2
                          refine V_aload_n 0 d_Mod_readLine_149 rfl rfl ?_
                          refine N_callVV [] [] cv_Mod_152 sk_116 rfl d_Mod_readLine_150 rfl (Nat.le_of_ble_eq_true rfl) (by decide) (by decide) (c_Mod_nextX h1423 b hI1425 s sZ sE (kn_call fh1423 (kn_call fh1392 (kn_call fh1374 (kn_call fh1360 (kn_call fh1323 sK rfl) rfl) rfl) rfl) rfl) o1396 o1396Z o1396E (kn_call fh1423 o1396K rfl) o1397 o1397Z o1397E (kn_call fh1423 o1397K rfl) o1398 o1398Z o1398E (kn_call fh1423 o1398K rfl) o1399 o1399Z o1399E (kn_call fh1423 o1399K rfl) o1427 o1427Z o1427E o1427K o1428 o1428Z o1428E o1428K (TP_fr f1426 (fun _ => rfl) hy0) (by (first | decide +kernel | omega))) (fun h1430 p1431 => ?_)
                          obtain ⟨hI1432, fh1430, o1434, o1434Z, o1434E, o1434K, o1435, o1435Z, o1435E, o1435K, o1436, o1436Z, o1436E, o1436K, o1437, o1437Z, o1437E, o1437K, o1438, o1438Z, o1438E, o1438K, o1439, o1439Z, o1439E, o1439K, p1431⟩ := p1431
                          have f1433 : fr S_Mod_readLineX h h1430 := fr_call f1426 fh1430 rfl
                          have g1440 : 0 ≤ o1434Z ∧ o1434Z ≤ 160 := inv_at hI1432 o1434E o1434K.symm rfl
                          have g1441 : 0 ≤ o1435Z ∧ o1435Z ≤ 160 := inv_at hI1432 o1435E o1435K.symm rfl
                          replace p1431 := p1431.resolve_right (fun q => by (first | decide +kernel | omega))
                          exact V_vret rfl d_Mod_readLine_153 ⟨rfl, ⟨hI1432, f1433, o1434, o1434Z, o1434E, o1434K, o1435, o1435Z, o1435E, o1435K, o1436, o1436Z, o1436E, o1436K, o1437, o1437Z, o1437E, o1437K, o1438, o1438Z, o1438E, o1438K, o1439, o1439Z, o1439E, o1439K, ⟨Or.inl ⟨by (first | decide +kernel | omega), (x_line_9 rfl hH hL).trans (hl.trans ((x_sq_y (by (first | decide +kernel | omega))).trans (pq (by (first | decide +kernel | omega)) (by (first | decide +kernel | omega)))))⟩, by (first | decide +kernel | omega), by (first | decide +kernel | omega), by (first | decide +kernel | omega)⟩⟩⟩
                        ·
                          refine V_iconst 1 d_Mod_readLine_140 (by decide) ?_
                          refine V_goto 145 d_Mod_readLine_141 (by decide) ?_
                          refine V_iconst 2 d_Mod_readLine_145 (by decide) ?_
                          refine N_callVV [.int 1, .int 2] [] cv_Mod_144 sk_116 rfl d_Mod_readLine_146 rfl (Nat.le_of_ble_eq_true rfl) (by decide) (by decide) (c_Mod_needsX h1392 hI1394 1 1 tc_1 2 2 tc_2 o1397 o1397Z o1397E o1397K o1400 o1400Z o1400E o1400K o1401 o1401Z o1401E o1401K) (fun h1443 p1444 => ?_)
                          obtain ⟨hI1445, fh1443, o1447, o1447Z, o1447E, o1447K, o1448, o1448Z, o1448E, o1448K, p1444⟩ := p1444
                          have f1446 : fr S_Mod_readLineX h h1443 := fr_call f1395 fh1443 rfl
                          have R1449 : RM h1443 T (x_up (x_up (x_up (x_up D (87 + 3 * D 86) (x_vl b (x_en b p0))) (88 + 3 * D 86) (x_vl b (x_en b (x_en b p0)))) (89 + 3 * D 86) (x_vl b (x_en b (x_en b (x_en b p0))))) 86 (D 86 + 1)) := RM_fr fh1443 rfl p1393R
                          replace p1444 := (p1444.resolve_right (fun q => by (first | decide +kernel | omega))).2
                          have hS9 : x_cS b (x_en b (x_en b (x_en b (x_en b p0)))) = 0 := cS_of (by (first | decide +kernel | omega))
                          have hmo := And.intro (x_fr_ge b p0) (And.intro (x_en_ge b (x_en b p0)) (And.intro (x_en_ge b (x_en b (x_en b p0))) (x_en_ge b (x_en b (x_en b (x_en b p0))))))
                          refine V_aload_n 0 d_Mod_readLine_149 rfl rfl ?_
                          refine N_callVV [] [] cv_Mod_152 sk_116 rfl d_Mod_readLine_150 rfl (Nat.le_of_ble_eq_true rfl) (by decide) (by decide) (c_Mod_nextX h1443 b hI1445 s sZ sE (kn_call fh1443 (kn_call fh1392 (kn_call fh1374 (kn_call fh1360 (kn_call fh1323 sK rfl) rfl) rfl) rfl) rfl) o1396 o1396Z o1396E (kn_call fh1443 o1396K rfl) o1397 o1397Z o1397E (kn_call fh1443 o1397K rfl) o1398 o1398Z o1398E (kn_call fh1443 o1398K rfl) o1399 o1399Z o1399E (kn_call fh1443 o1399K rfl) o1447 o1447Z o1447E o1447K o1448 o1448Z o1448E o1448K (TP_fr f1446 (fun _ => rfl) hy0) (by (first | decide +kernel | omega))) (fun h1451 p1452 => ?_)
                          obtain ⟨hI1453, fh1451, o1455, o1455Z, o1455E, o1455K, o1456, o1456Z, o1456E, o1456K, o1457, o1457Z, o1457E, o1457K, o1458, o1458Z, o1458E, o1458K, o1459, o1459Z, o1459E, o1459K, o1460, o1460Z, o1460E, o1460K, p1452⟩ := p1452
                          have f1454 : fr S_Mod_readLineX h h1451 := fr_call f1446 fh1451 rfl
                          have R1461 : RM h1451 T (x_up (x_up (x_up (x_up D (87 + 3 * D 86) (x_vl b (x_en b p0))) (88 + 3 * D 86) (x_vl b (x_en b (x_en b p0)))) (89 + 3 * D 86) (x_vl b (x_en b (x_en b (x_en b p0))))) 86 (D 86 + 1)) := RM_fr fh1451 rfl R1449
                          have g1462 : 0 ≤ o1455Z ∧ o1455Z ≤ 160 := inv_at hI1453 o1455E o1455K.symm rfl
                          have g1463 : 0 ≤ o1456Z ∧ o1456Z ≤ 160 := inv_at hI1453 o1456E o1456K.symm rfl
                          replace p1452 := p1452.resolve_left (fun q => by (first | decide +kernel | omega))
                          exact V_vret rfl d_Mod_readLine_153 ⟨rfl, ⟨hI1453, f1454, o1455, o1455Z, o1455E, o1455K, o1456, o1456Z, o1456E, o1456K, o1457, o1457Z, o1457E, o1457K, o1458, o1458Z, o1458E, o1458K, o1459, o1459Z, o1459E, o1459K, o1460, o1460Z, o1460E, o1460K, ⟨Or.inr ⟨x_en b (x_en b (x_en b (x_en b (x_en b p0)))), (x_line_9 rfl hH hL).trans (hl.trans (x_sq_n (by (first | decide +kernel | omega)))), by (first | decide +kernel | omega), by (first | decide +kernel | omega), (by rw [x_T_9 T (u := x_en b p0) rfl hL, x_D_9 D (u := x_en b p0) rfl hL]; exact (RM_nine R1461)), nx_e p1452 (by (first | decide +kernel | omega))⟩, by (first | decide +kernel | omega), by (first | decide +kernel | omega), by (first | decide +kernel | omega)⟩⟩⟩
                  ·
                    exact absurd c1390 (by (first | decide +kernel | omega))
              ·
                exact absurd c1368 (by decide)
end
section
def x_T0 : Nat → Int → Int := fun _ _ => 0
def x_D0 : Nat → Int := fun i => if 32 ≤ i ∧ i < 48 then 5 else if 48 ≤ i ∧ i < 64 then -4 else if i = 85 then 9 else if i = 144 ∨ i = 145 then 3 else if i = 146 then 1 else if i = 147 then 10 else 0
/-- what was told, the draft, and the place, behind k lines -/
def x_st (b : Int → Int) : Nat → (Nat → Int → Int) × (Nat → Int) × Int
  | 0 => (x_T0, x_D0, 0)
  | k + 1 => (x_T b (x_st b k).1 (x_st b k).2.2, x_D b (x_st b k).2.1 (x_st b k).2.2, (x_line b (x_st b k).1 ((x_st b k).2.1 86) (x_st b k).2.2).2)
def x_lk (b : Int → Int) (k : Nat) : Int × Int := x_line b (x_st b k).1 ((x_st b k).2.1 86) (x_st b k).2.2
def x_ok (b : Int → Int) (k : Nat) : Prop := ∀ j : Nat, j < k → x_kd b (x_st b j).2.2 ≠ 0 ∧ (x_lk b j).1 = 0
def x_end (b : Int → Int) (k : Nat) : Prop := x_ok b k ∧ (x_kd b (x_st b k).2.2 = 0 ∨ (x_lk b k).1 ≠ 0)
theorem x_ok_0 (b : Int → Int) : x_ok b 0 := fun j hj => absurd hj (Nat.not_lt_zero j)
theorem x_ok_s {b : Int → Int} {k : Nat} (h : x_ok b k) (h1 : x_kd b (x_st b k).2.2 ≠ 0) (h2 : (x_lk b k).1 = 0) : x_ok b (k + 1) := fun j hj => by
  by_cases q : j = k
  · subst q; exact ⟨h1, h2⟩
  · exact h j (by (first | decide +kernel | omega))
theorem x_end_un {b : Int → Int} {j k : Nat} (h : x_end b j) (g : x_end b k) : j = k := by
  by_cases q : j < k
  · have := g.1 j q
    rcases h.2 with w | w
    · exact absurd w this.1
    · exact absurd this.2 w
  · by_cases q2 : k < j
    · have := h.1 k q2
      rcases g.2 with w | w
      · exact absurd w this.1
      · exact absurd this.2 w
    · omega
theorem x_sq_0 {c w : Int} {r : Int × Int} (h : (x_sq c w r).1 = 0) : c = 0 ∧ r.1 = 0 := by
  rcases x_sq_s c w r with q | q
  · exact absurd (q.2.1.symm.trans h) q.1
  · exact ⟨q.1, q.2.1.symm.trans h⟩
def x_good (D : Nat → Int) : Prop := 2 ≤ D 144 ∧ D 144 ≤ 4 ∧ 2 ≤ D 145 ∧ D 145 ≤ 4 ∧ 0 ≤ D 86 ∧ D 86 ≤ 8
theorem x_up_n {D : Nat → Int} {k v : Int} {i : Nat} (h : (i : Int) ≠ k) : x_up D k v i = D i := if_neg h
theorem x_up_y {D : Nat → Int} {k v : Int} {i : Nat} (h : (i : Int) = k) : x_up D k v i = v := if_pos h
theorem x_good_up {D : Nat → Int} {k v : Int} (g : x_good D) (h : 0 ≤ k ∧ k < 144 ∧ k ≠ 86 ∨ k = 146 ∨ k = 147) : x_good (x_up D k v) := by
  unfold x_good
  rw [x_up_n (show ((144 : Nat) : Int) ≠ k by (first | decide +kernel | omega)), x_up_n (show ((145 : Nat) : Int) ≠ k by (first | decide +kernel | omega)), x_up_n (show ((86 : Nat) : Int) ≠ k by (first | decide +kernel | omega))]
  exact g
theorem x_good_0 : x_good x_D0 := by unfold x_good x_D0; decide
theorem x_good_D {b : Int → Int} {T : Nat → Int → Int} {D : Nat → Int} {p : Int} (h : (x_line b T (D 86) p).1 = 0) (g : x_good D) : x_good (x_D b D p) := by
  have hH : x_cH b T (D 86) p = 0 := (x_sq_0 h).1
  have hs := x_cH_s b T (D 86) p
  have hb := x_ln_b b (x_fr b p) (x_en b p)
  have hl : x_li b p = 0 ∨ x_li b p = 1 ∨ x_li b p = 2 ∨ x_li b p = 3 ∨ x_li b p = 4 ∨ x_li b p = 5 ∨ x_li b p = 6 ∨ x_li b p = 7 ∨ x_li b p = 8 ∨ x_li b p = 9 := by
    have e : x_li b p = x_ln b (x_fr b p) (x_en b p) := rfl
    have h2 : x_li b p ≠ -1 := by
      rcases hs with q | q | q | q | q | q
      · exact absurd (q.2.symm.trans hH) (by decide)
      · exact absurd (q.2.2.symm.trans hH) (by decide)
      · exact absurd (q.2.2.symm.trans hH) (by decide)
      · exact q.2.1
      · omega
      · exact q.2.1
    omega
  rcases hl with hl | hl | hl | hl | hl | hl | hl | hl | hl | hl
  · rw [x_line_0 rfl hH hl] at h
    rw [x_D_0 D rfl hl]
    unfold x_l0 at h
    have h1 := x_sq_0 h
    have h2 := x_sq_0 h1.2
    have a1 := x_cN_s b (x_en b p) 2 4
    have a2 := x_cN_s b (x_en b (x_en b p)) 2 4
    unfold x_good at g ⊢
    rw [x_up_n (i := 144) (by decide), x_up_y (i := 144) (k := 144) rfl, x_up_y (i := 145) (k := 145) rfl, x_up_n (i := 86) (by decide), x_up_n (i := 86) (by decide)]
    omega
  · rw [x_line_1 rfl hH hl] at h
    rw [x_D_1 D rfl hl]
    unfold x_l1 at h
    have h1 := x_sq_0 h
    have a1 := x_cN_s b (x_en b p) 0 15
    exact x_good_up g (by (first | decide +kernel | omega))
  · rw [x_line_2 rfl hH hl] at h
    rw [x_D_2 D rfl hl]
    unfold x_l2 at h
    have h1 := x_sq_0 h
    have a1 := x_cN_s b (x_en b p) 0 15
    exact x_good_up g (by (first | decide +kernel | omega))
  · rw [x_line_3 rfl hH hl] at h
    rw [x_D_3 D rfl hl]
    unfold x_l3 at h
    have h1 := x_sq_0 h
    have a1 := x_cN_s b (x_en b p) 0 15
    exact x_good_up g (by (first | decide +kernel | omega))
  · rw [x_line_4 rfl hH hl] at h
    rw [x_D_4 D rfl hl]
    unfold x_l4 at h
    have h1 := x_sq_0 h
    have a1 := x_cN_s b (x_en b p) 0 15
    exact x_good_up g (by (first | decide +kernel | omega))
  · rw [x_line_5 rfl hH hl] at h
    rw [x_D_5 D rfl hl]
    unfold x_l5 at h
    have h1 := x_sq_0 h
    have a1 := x_cN_s b (x_en b p) 0 3
    exact x_good_up g (by (first | decide +kernel | omega))
  · rw [x_line_6 rfl hH hl] at h
    rw [x_D_6 D rfl hl]
    exact x_good_up g (by (first | decide +kernel | omega))
  · rw [x_line_7 rfl hH hl] at h
    rw [x_D_7 D rfl hl]
    exact x_good_up g (by (first | decide +kernel | omega))
  · rw [x_line_8 rfl hH hl] at h
    rw [x_D_8 D rfl hl]
    exact x_good_up (x_good_up g (by (first | decide +kernel | omega))) (by (first | decide +kernel | omega))
  · rw [x_line_9 rfl hH hl] at h
    rw [x_D_9 D rfl hl]
    have hm : D 86 < 8 := by
      rcases hs with q | q | q | q | q | q
      · exact absurd (q.2.symm.trans hH) (by decide)
      · exact absurd (q.2.2.symm.trans hH) (by decide)
      · exact absurd (q.2.2.symm.trans hH) (by decide)
      · exact absurd (q.2.2.2.symm.trans hH) (by decide)
      · exact absurd (q.2.2.2.symm.trans hH) (by decide)
      · omega
    have g1 := x_good_up (v := x_vl b (x_en b (x_en b (x_en b p)))) (x_good_up (v := x_vl b (x_en b (x_en b p))) (x_good_up (k := 87 + 3 * D 86) (v := x_vl b (x_en b p)) g (by unfold x_good at g; omega)) (k := 88 + 3 * D 86) (by unfold x_good at g; omega)) (k := 89 + 3 * D 86) (by unfold x_good at g; omega)
    unfold x_good at g g1 ⊢
    rw [x_up_n (i := 144) (k := 86) (by decide), x_up_n (i := 145) (k := 86) (by decide), x_up_y (i := 86) (k := 86) rfl]
    omega
theorem x_good_k {b : Int → Int} : ∀ k : Nat, x_ok b k → x_good (x_st b k).2.1 := by
  intro k
  induction k with
  | zero => intro _; exact x_good_0
  | succ k ih => intro h; exact x_good_D (h k (by (first | decide +kernel | omega))).2 (ih (fun j hj => h j (by (first | decide +kernel | omega))))
/-- a CELL was told of that the county has not -/
def x_by (T : Nat → Int → Int) (W : Int) : Prop := ∃ (l : Nat) (c : Int), 1 ≤ l ∧ l ≤ 4 ∧ 0 ≤ c ∧ c ≤ 15 ∧ T l c ≠ 0 ∧ W ≤ c
def x_bey (b : Int → Int) (k : Nat) : Prop := x_by (x_st b k).1 ((x_st b k).2.1 144 * (x_st b k).2.1 145)
theorem x_HI_by {H W : Int} {T : Nat → Int → Int} (r : x_HI H T) (hW : 0 < W) : H < W ∧ ¬ x_by T W ∨ W ≤ H ∧ x_by T W := by
  by_cases q : H < W
  · refine Or.inl ⟨q, fun w => ?_⟩
    obtain ⟨l, c, h1, h2, h3, h4, h5, h6⟩ := w
    have := r.2 l c h1 h2 h3 h4 h5
    omega
  · refine Or.inr ⟨by (first | decide +kernel | omega), ?_⟩
    rcases r.1 with w | ⟨w1, w2, l, w3, w4, w5⟩
    · omega
    · exact ⟨l, H, w3, w4, w1, w2, w5, by (first | decide +kernel | omega)⟩
/-- what a text's answer r and FAULT u must be; s: the tape's length -/
def x_tx (b : Int → Int) (s : Int) (r : Int32) (u : Int) (n : Nat) : Prop := x_end b n ∧ (x_kd b (x_st b n).2.2 = 0 ∧ ¬ x_bey b n ∧ r.toInt = n ∧ u = 0 ∨ x_kd b (x_st b n).2.2 = 0 ∧ x_bey b n ∧ u = 6 ∧ (∃ y : Int32, y.toInt = s ∧ r = -10 - y) ∨ x_kd b (x_st b n).2.2 ≠ 0 ∧ u = (x_lk b n).1 ∧ u ≠ 0 ∧ ∃ y : Int32, y.toInt = (x_lk b n).2 ∧ r = -10 - y)
theorem x_tx_un {b : Int → Int} {s u u' : Int} {r r' : Int32} {n n' : Nat} (h : x_tx b s r u n) (g : x_tx b s r' u' n') : n = n' ∧ r = r' ∧ u = u' := by
  have e := x_end_un h.1 g.1
  subst e
  refine ⟨rfl, ?_⟩
  rcases h.2 with ⟨a1, a2, a3, a4⟩ | ⟨a1, a2, a3, y, a4, a5⟩ | ⟨a1, a2, a3, y, a4, a5⟩
  · rcases g.2 with ⟨b1, b2, b3, b4⟩ | ⟨b1, b2, b3, z, b4, b5⟩ | ⟨b1, b2, b3, z, b4, b5⟩
    · exact ⟨Int32.toInt_inj.mp (a3.trans b3.symm), a4.trans b4.symm⟩
    · exact absurd b2 a2
    · exact absurd a1 b1
  · rcases g.2 with ⟨b1, b2, b3, b4⟩ | ⟨b1, b2, b3, z, b4, b5⟩ | ⟨b1, b2, b3, z, b4, b5⟩
    · exact absurd a2 b2
    · exact ⟨by rw [a5, b5, Int32.toInt_inj.mp (a4.trans b4.symm)], a3.trans b3.symm⟩
    · exact absurd a1 b1
  · rcases g.2 with ⟨b1, b2, b3, b4⟩ | ⟨b1, b2, b3, z, b4, b5⟩ | ⟨b1, b2, b3, z, b4, b5⟩
    · exact absurd b1 a1
    · exact absurd b1 a1
    · exact ⟨by rw [a5, b5, Int32.toInt_inj.mp (a4.trans b4.symm)], a2.trans b2.symm⟩
end
