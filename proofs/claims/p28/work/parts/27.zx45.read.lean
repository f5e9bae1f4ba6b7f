section
def S_Reader_isRefusedX : List (Nat × Option Nat) := [(88, some 5), (88, some 6)]
abbrev q_Reader_isRefusedX (h : Hp) (n : Int32) (nZ : Int) (p : Int32) (pZ : Int) : Option Value → Hp → Prop := pInt (fun r h' => Inv h' ∧ fr S_Reader_isRefusedX h h' ∧ ∃ (e : Int32) (eZ : Int), e.toInt = eZ ∧ h'.1 88 6 = e ∧ ∃ (y : Int32) (yZ : Int), y.toInt = yZ ∧ h'.1 88 5 = y ∧ (r.toInt = 0 ∧ eZ = nZ ∧ yZ = pZ))
set_option maxRecDepth 100000 in
theorem c_Reader_isRefusedX (h : Hp) (hI : Inv h) (n : Int32) (nZ : Int) (nE : n.toInt = nZ) (p : Int32) (pZ : Int) (pE : p.toInt = pZ) : Ct y_Reader_isRefused b_Reader_isRefused 3 (some .boolean) 0 0 [.ref 88, .int n, .int p] h (q_Reader_isRefusedX h n nZ p pZ) := by
  refine ct_ow R_Reader [some (.ref 88), some (.int n), some (.int p)] rfl (by decide) rfl (Nat.le_of_ble_eq_true rfl) ?_
  have f0 : fr S_Reader_isRefusedX h h := fr_rf
  refine V_aload_n 0 d_Reader_isRefused_0 rfl rfl ?_
  refine V_iload_n 1 d_Reader_isRefused_1 rfl rfl ?_
  refine N_putI fp_Reader_41 sk_88 rfl d_Reader_isRefused_2 (fun h1 eh1 => ?_)
  have hI2 : Inv h1 := inv_full hI eh1 rfl
  have f3 : fr S_Reader_isRefusedX h h1 := fr_put f0 eh1 rfl
  refine V_aload_n 0 d_Reader_isRefused_5 rfl rfl ?_
  refine V_iload_n 2 d_Reader_isRefused_6 rfl rfl ?_
  refine N_putI fp_Reader_68 sk_88 rfl d_Reader_isRefused_7 (fun h4 eh4 => ?_)
  have hI5 : Inv h4 := inv_full hI2 eh4 rfl
  have f6 : fr S_Reader_isRefusedX h h4 := fr_put f3 eh4 rfl
  refine V_iconst 0 d_Reader_isRefused_10 (by decide) ?_
  exact V_zret rfl (by decide) d_Reader_isRefused_11 ⟨0, rfl, ⟨hI5, f6, n, nZ, nE, (kn_nei eh4 (kn_put eh1) (by decide)), p, pZ, pE, (kn_put eh4), (by (try rw [show Int32.toInt 0 = 0 from rfl]) <;> omega)⟩⟩
def S_Reader_isKindX : List (Nat × Option Nat) := [(88, some 5), (88, some 6)]
abbrev q_Reader_isKindX (h : Hp) (m : Int32) (mZ : Int) (k : Int32) (kZ : Int) (f : Int32) (fZ : Int) (a : Int32) (aZ : Int) (w : Int32) (wZ : Int) : Option Value → Hp → Prop := pInt (fun r h' => Inv h' ∧ fr S_Reader_isKindX h h' ∧ ∃ (e : Int32) (eZ : Int), e.toInt = eZ ∧ h'.1 88 6 = e ∧ ∃ (y : Int32) (yZ : Int), y.toInt = yZ ∧ h'.1 88 5 = y ∧ (kZ = 4 ∧ r.toInt = 0 ∧ eZ = 1 ∧ yZ = fZ ∨ kZ ≠ 4 ∧ kZ = mZ ∧ r.toInt = 1 ∧ eZ = wZ ∧ yZ = aZ ∨ kZ ≠ 4 ∧ kZ ≠ mZ ∧ r.toInt = 0 ∧ eZ = 2 ∧ yZ = fZ))
set_option maxRecDepth 100000 in
theorem c_Reader_isKindX (h : Hp) (hI : Inv h) (m : Int32) (mZ : Int) (mE : m.toInt = mZ) (k : Int32) (kZ : Int) (kE : k.toInt = kZ) (kK : h.1 89 2 = k) (f : Int32) (fZ : Int) (fE : f.toInt = fZ) (fK : h.1 89 3 = f) (a : Int32) (aZ : Int) (aE : a.toInt = aZ) (aK : h.1 88 5 = a) (w : Int32) (wZ : Int) (wE : w.toInt = wZ) (wK : h.1 88 6 = w) : Ct y_Reader_isKind b_Reader_isKind 2 (some .boolean) 1 22 [.ref 88, .int m] h (q_Reader_isKindX h m mZ k kZ f fZ a aZ w wZ) := by
  refine ct_ow R_Reader [some (.ref 88), some (.int m)] rfl (by decide) rfl (Nat.le_of_ble_eq_true rfl) ?_
  have f0 : fr S_Reader_isKindX h h := fr_rf
  have g1 : 0 ≤ fZ ∧ fZ ≤ 160 := inv_at hI fE fK.symm rfl
  refine V_aload_n 0 d_Reader_isKind_0 rfl rfl ?_
  refine V_getR fa_Reader_12 sk_88 rfl d_Reader_isKind_1 ?_
  refine N_getK fa_Reader_51 sk_89 rfl d_Reader_isKind_4 kK ?_
  refine V_iconst 4 d_Reader_isKind_7 (by decide) ?_
  refine V_icmp_ne 24 kE tc_4 d_Reader_isKind_8 (by decide) (fun c2 => ?_) (fun c2 => ?_)
  ·
    refine V_aload_n 0 d_Reader_isKind_24 rfl rfl ?_
    refine V_getR fa_Reader_12 sk_88 rfl d_Reader_isKind_25 ?_
    refine N_getK fa_Reader_51 sk_89 rfl d_Reader_isKind_28 kK ?_
    refine V_iload_n 1 d_Reader_isKind_31 rfl rfl ?_
    refine V_icmp_eq 50 kE mE d_Reader_isKind_32 (by decide) (fun c3 => ?_) (fun c3 => ?_)
    ·
      refine V_iconst 1 d_Reader_isKind_50 (by decide) ?_
      refine V_goto 55 d_Reader_isKind_51 (by decide) ?_
      exact V_zret rfl (by decide) d_Reader_isKind_55 ⟨1, rfl, ⟨hI, f0, w, wZ, wE, wK, a, aZ, aE, aK, (by (try rw [show Int32.toInt 1 = 1 from rfl]) <;> omega)⟩⟩
    ·
      refine V_aload_n 0 d_Reader_isKind_35 rfl rfl ?_
      refine V_iconst 2 d_Reader_isKind_36 (by decide) ?_
      refine V_aload_n 0 d_Reader_isKind_37 rfl rfl ?_
      refine V_getR fa_Reader_12 sk_88 rfl d_Reader_isKind_38 ?_
      refine N_getK fa_Reader_81 sk_89 rfl d_Reader_isKind_41 fK ?_
      refine N_callVI [.int 2, .int f] [] cv_Reader_64 sk_88 rfl d_Reader_isKind_44 rfl (Nat.le_of_ble_eq_true rfl) (by decide) (by decide) (c_Reader_isRefusedX h hI 2 2 tc_2 f fZ fE) (fun z4 h5 z4Z z4E p6 => ?_)
      obtain ⟨hI7, fh5, o9, o9Z, o9E, o9K, o10, o10Z, o10E, o10K, p6⟩ := p6
      have f8 : fr S_Reader_isKindX h h5 := fr_call f0 fh5 rfl
      refine V_if_eq 54 z4E d_Reader_isKind_47 (by decide) (fun c11 => ?_) (fun c11 => ?_)
      ·
        refine V_iconst 0 d_Reader_isKind_54 (by decide) ?_
        exact V_zret rfl (by decide) d_Reader_isKind_55 ⟨0, rfl, ⟨hI7, f8, o9, o9Z, o9E, o9K, o10, o10Z, o10E, o10K, (by (try rw [show Int32.toInt 0 = 0 from rfl]) <;> omega)⟩⟩
      ·
        refine V_iconst 1 d_Reader_isKind_50 (by decide) ?_
        refine V_goto 55 d_Reader_isKind_51 (by decide) ?_
        exact V_zret rfl (by decide) d_Reader_isKind_55 ⟨1, rfl, ⟨hI7, f8, o9, o9Z, o9E, o9K, o10, o10Z, o10E, o10K, (by (try rw [show Int32.toInt 1 = 1 from rfl]) <;> omega)⟩⟩
  ·
    refine V_aload_n 0 d_Reader_isKind_11 rfl rfl ?_
    refine V_iconst 1 d_Reader_isKind_12 (by decide) ?_
    refine V_aload_n 0 d_Reader_isKind_13 rfl rfl ?_
    refine V_getR fa_Reader_12 sk_88 rfl d_Reader_isKind_14 ?_
    refine N_getK fa_Reader_81 sk_89 rfl d_Reader_isKind_17 fK ?_
    refine N_callVI [.int 1, .int f] [] cv_Reader_64 sk_88 rfl d_Reader_isKind_20 rfl (Nat.le_of_ble_eq_true rfl) (by decide) (by decide) (c_Reader_isRefusedX h hI 1 1 tc_1 f fZ fE) (fun z12 h13 z12Z z12E p14 => ?_)
    obtain ⟨hI15, fh13, o17, o17Z, o17E, o17K, o18, o18Z, o18E, o18K, p14⟩ := p14
    have f16 : fr S_Reader_isKindX h h13 := fr_call f0 fh13 rfl
    exact V_zret rfl (by rw [z12E]; omega) d_Reader_isKind_23 ⟨z12, rfl, ⟨hI15, f16, o17, o17Z, o17E, o17K, o18, o18Z, o18E, o18K, (by (try rw [z12E]); omega)⟩⟩
def S_Reader_readNatureX : List (Nat × Option Nat) := [(89, some 2), (89, some 3), (89, some 4), (89, some 5), (88, some 5), (88, some 6), (88, some 4)]
abbrev q_Reader_readNatureX (h : Hp) (b : Int → Int) (T : Nat → Int → Int) (s : Int32) (sZ : Int) (t : Int32) (tZ : Int) (a : Int32) (aZ : Int) (w : Int32) (wZ : Int) : Option Value → Hp → Prop := pInt (fun r h' => Inv h' ∧ fr S_Reader_readNatureX h h' ∧ ∃ (k : Int32) (kZ : Int), k.toInt = kZ ∧ h'.1 89 2 = k ∧ ∃ (f : Int32) (fZ : Int), f.toInt = fZ ∧ h'.1 89 3 = f ∧ ∃ (u : Int32) (uZ : Int), u.toInt = uZ ∧ h'.1 89 4 = u ∧ ∃ (v : Int32) (vZ : Int), v.toInt = vZ ∧ h'.1 89 5 = v ∧ ∃ (e : Int32) (eZ : Int), e.toInt = eZ ∧ h'.1 88 6 = e ∧ ∃ (y : Int32) (yZ : Int), y.toInt = yZ ∧ h'.1 88 5 = y ∧ ∃ (x : Int32) (xZ : Int), x.toInt = xZ ∧ h'.1 88 4 = x ∧ (r.toInt = 1 ∧ x_cK b tZ = 0 ∧ uZ = x_en b tZ ∧ xZ = x_nn b tZ ∧ eZ = wZ ∧ yZ = aZ ∧ tZ < uZ ∧ uZ ≤ sZ ∨ r.toInt = 0 ∧ x_cK b tZ ≠ 0 ∧ eZ = x_cK b tZ ∧ yZ = x_fr b tZ))
set_option maxRecDepth 100000 in
theorem c_Reader_readNatureX (h : Hp) (b : Int → Int) (T : Nat → Int → Int) (hI : Inv h) (s : Int32) (sZ : Int) (sE : s.toInt = sZ) (sK : h.1 89 1 = s) (t : Int32) (tZ : Int) (tE : t.toInt = tZ) (tK : h.1 89 4 = t) (a : Int32) (aZ : Int) (aE : a.toInt = aZ) (aK : h.1 88 5 = a) (w : Int32) (wZ : Int) (wE : w.toInt = wZ) (wK : h.1 88 6 = w) (hy0 : TP h 90 sZ b) (hy1 : 0 ≤ tZ ∧ tZ ≤ sZ) : Ct y_Reader_readNature b_Reader_readNature 1 (some .boolean) 6 129 [.ref 88] h (q_Reader_readNatureX h b T s sZ t tZ a aZ w wZ) := by
  refine ct_ow R_Reader [some (.ref 88)] rfl (by decide) rfl (Nat.le_of_ble_eq_true rfl) ?_
  have f0 : fr S_Reader_readNatureX h h := fr_rf
  have g1 : 0 ≤ sZ ∧ sZ ≤ 160 := inv_at hI sE sK.symm rfl
  have g2 : 0 ≤ tZ ∧ tZ ≤ 160 := inv_at hI tE tK.symm rfl
  refine V_aload_n 0 d_Reader_readNature_0 rfl rfl ?_
  refine V_getR fa_Reader_12 sk_88 rfl d_Reader_readNature_1 ?_
  refine N_callVV [] [] cv_Reader_48 sk_89 rfl d_Reader_readNature_4 rfl (Nat.le_of_ble_eq_true rfl) (by decide) (by decide) (c_Tape_advanceX h b hI s sZ sE sK t tZ tE tK (TP_fr f0 (fun _ => rfl) hy0) (by (first | decide +kernel | omega))) (fun h4 p5 => ?_)
  obtain ⟨hI6, fh4, o8, o8Z, o8E, o8K, o9, o9Z, o9E, o9K, o10, o10Z, o10E, o10K, o11, o11Z, o11E, o11K, p5⟩ := p5
  have f7 : fr S_Reader_readNatureX h h4 := fr_call f0 fh4 rfl
  have g12 : 0 ≤ o9Z ∧ o9Z ≤ 160 := inv_at hI6 o9E o9K.symm rfl
  have g13 : 0 ≤ o10Z ∧ o10Z ≤ 160 := inv_at hI6 o10E o10K.symm rfl
  refine V_aload_n 0 d_Reader_readNature_7 rfl rfl ?_
  refine V_iconst 1 d_Reader_readNature_8 (by decide) ?_
  refine N_callVI [.int 1] [] cv_Reader_84 sk_88 rfl d_Reader_readNature_9 rfl (Nat.le_of_ble_eq_true rfl) (by decide) (by decide) (c_Reader_isKindX h4 hI6 1 1 tc_1 o8 o8Z o8E o8K o9 o9Z o9E o9K a aZ aE (kn_call fh4 aK rfl) w wZ wE (kn_call fh4 wK rfl)) (fun z14 h15 z14Z z14E p16 => ?_)
  obtain ⟨hI17, fh15, o19, o19Z, o19E, o19K, o20, o20Z, o20E, o20K, p16⟩ := p16
  have f18 : fr S_Reader_readNatureX h h15 := fr_call f7 fh15 rfl
  refine V_if_ne 17 z14E d_Reader_readNature_12 (by decide) (fun c21 => ?_) (fun c21 => ?_)
  ·
    replace p16 := kd_y p16 (by (first | decide +kernel | omega))
    replace p5 := adv_m 1 p5 (by (first | decide +kernel | omega)) (by decide)
    refine V_aload_n 0 d_Reader_readNature_17 rfl rfl ?_
    refine V_aload_n 0 d_Reader_readNature_18 rfl rfl ?_
    refine N_callVI [] [.ref 88] cv_Reader_116 sk_88 rfl d_Reader_readNature_19 rfl (Nat.le_of_ble_eq_true rfl) (by decide) (by decide) (c_Reader_natureNamedX h15 b hI17 s sZ sE (kn_call fh15 (kn_call fh4 sK rfl) rfl) o8 o8Z o8E (kn_call fh15 o8K rfl) o9 o9Z o9E (kn_call fh15 o9K rfl) o10 o10Z o10E (kn_call fh15 o10K rfl) (TP_fr f18 (fun _ => rfl) hy0) (by (first | decide +kernel | omega))) (fun z22 h23 z22Z z22E p24 => ?_)
    obtain ⟨eh23, p24⟩ := p24
    subst eh23
    refine N_putI fp_Reader_119 sk_88 rfl d_Reader_readNature_22 (fun h25 eh25 => ?_)
    have hI26 : Inv h25 := inv_full hI17 eh25 rfl
    have f27 : fr S_Reader_readNatureX h h25 := fr_put f18 eh25 rfl
    have g28 : x_nt b o9Z o10Z = x_nn b tZ := by unfold x_nn; rw [show o9Z = x_fr b tZ by (first | decide +kernel | omega), show o10Z = x_en b tZ by (first | decide +kernel | omega)]
    have g29 := x_nt_b b o9Z o10Z
    refine V_aload_n 0 d_Reader_readNature_25 rfl rfl ?_
    refine N_getK fa_Reader_119 sk_88 rfl d_Reader_readNature_26 (kn_put eh25) ?_
    refine V_if_ge 47 z22E d_Reader_readNature_29 (by decide) (fun c30 => ?_) (fun c30 => ?_)
    ·
      refine V_iconst 1 d_Reader_readNature_47 (by decide) ?_
      refine V_goto 52 d_Reader_readNature_48 (by decide) ?_
      exact V_zret rfl (by decide) d_Reader_readNature_52 ⟨1, rfl, ⟨hI26, f27, o8, o8Z, o8E, (kn_ne eh25 (kn_call fh15 o8K rfl) (by decide)), o9, o9Z, o9E, (kn_ne eh25 (kn_call fh15 o9K rfl) (by decide)), o10, o10Z, o10E, (kn_ne eh25 (kn_call fh15 o10K rfl) (by decide)), o11, o11Z, o11E, (kn_ne eh25 (kn_call fh15 o11K rfl) (by decide)), o19, o19Z, o19E, (kn_nei eh25 o19K (by decide)), o20, o20Z, o20E, (kn_nei eh25 o20K (by decide)), z22, z22Z, z22E, (kn_put eh25), (by have s1 := x_cK_s b tZ; exact Or.inl ⟨rfl, by (first | decide +kernel | omega), by (first | decide +kernel | omega), by (first | decide +kernel | omega), by (first | decide +kernel | omega), by (first | decide +kernel | omega), by (first | decide +kernel | omega), by (first | decide +kernel | omega)⟩)⟩⟩
    ·
      refine V_aload_n 0 d_Reader_readNature_32 rfl rfl ?_
      refine V_iconst 2 d_Reader_readNature_33 (by decide) ?_
      refine V_aload_n 0 d_Reader_readNature_34 rfl rfl ?_
      refine V_getR fa_Reader_12 sk_88 rfl d_Reader_readNature_35 ?_
      refine N_getK fa_Reader_81 sk_89 rfl d_Reader_readNature_38 (kn_ne eh25 (kn_call fh15 o9K rfl) (by decide)) ?_
      refine N_callVI [.int 2, .int o9] [] cv_Reader_64 sk_88 rfl d_Reader_readNature_41 rfl (Nat.le_of_ble_eq_true rfl) (by decide) (by decide) (c_Reader_isRefusedX h25 hI26 2 2 tc_2 o9 o9Z o9E) (fun z31 h32 z31Z z31E p33 => ?_)
      obtain ⟨hI34, fh32, o36, o36Z, o36E, o36K, o37, o37Z, o37E, o37K, p33⟩ := p33
      have f35 : fr S_Reader_readNatureX h h32 := fr_call f27 fh32 rfl
      refine V_if_eq 51 z31E d_Reader_readNature_44 (by decide) (fun c38 => ?_) (fun c38 => ?_)
      ·
        refine V_iconst 0 d_Reader_readNature_51 (by decide) ?_
        exact V_zret rfl (by decide) d_Reader_readNature_52 ⟨0, rfl, ⟨hI34, f35, o8, o8Z, o8E, (kn_call fh32 (kn_ne eh25 (kn_call fh15 o8K rfl) (by decide)) rfl), o9, o9Z, o9E, (kn_call fh32 (kn_ne eh25 (kn_call fh15 o9K rfl) (by decide)) rfl), o10, o10Z, o10E, (kn_call fh32 (kn_ne eh25 (kn_call fh15 o10K rfl) (by decide)) rfl), o11, o11Z, o11E, (kn_call fh32 (kn_ne eh25 (kn_call fh15 o11K rfl) (by decide)) rfl), o36, o36Z, o36E, o36K, o37, o37Z, o37E, o37K, z22, z22Z, z22E, (kn_call fh32 (kn_put eh25) rfl), (by have s1 := x_cK_s b tZ; exact Or.inr ⟨tc_0, by (first | decide +kernel | omega), by (first | decide +kernel | omega), by (first | decide +kernel | omega)⟩)⟩⟩
      ·
        refine V_iconst 1 d_Reader_readNature_47 (by decide) ?_
        refine V_goto 52 d_Reader_readNature_48 (by decide) ?_
        exact V_zret rfl (by decide) d_Reader_readNature_52 ⟨1, rfl, ⟨hI34, f35, o8, o8Z, o8E, (kn_call fh32 (kn_ne eh25 (kn_call fh15 o8K rfl) (by decide)) rfl), o9, o9Z, o9E, (kn_call fh32 (kn_ne eh25 (kn_call fh15 o9K rfl) (by decide)) rfl), o10, o10Z, o10E, (kn_call fh32 (kn_ne eh25 (kn_call fh15 o10K rfl) (by decide)) rfl), o11, o11Z, o11E, (kn_call fh32 (kn_ne eh25 (kn_call fh15 o11K rfl) (by decide)) rfl), o36, o36Z, o36E, o36K, o37, o37Z, o37E, o37K, z22, z22Z, z22E, (kn_call fh32 (kn_put eh25) rfl), (by have s1 := x_cK_s b tZ; exact Or.inl ⟨rfl, by (first | decide +kernel | omega), by (first | decide +kernel | omega), by (first | decide +kernel | omega), by (first | decide +kernel | omega), by (first | decide +kernel | omega), by (first | decide +kernel | omega), by (first | decide +kernel | omega)⟩)⟩⟩
  ·
    replace p16 := kd_n p16 (by (first | decide +kernel | omega))
    replace p5 := adv_0 p5
    refine V_iconst 0 d_Reader_readNature_15 (by decide) ?_
    obtain ⟨z39, z39Z, z39E, z39e⟩ : ∃ (y : Int32) (Y : Int), y.toInt = Y ∧ y = h15.1 88 4 := ⟨_, _, rfl, rfl⟩
    exact V_zret rfl (by decide) d_Reader_readNature_16 ⟨0, rfl, ⟨hI17, f18, o8, o8Z, o8E, (kn_call fh15 o8K rfl), o9, o9Z, o9E, (kn_call fh15 o9K rfl), o10, o10Z, o10E, (kn_call fh15 o10K rfl), o11, o11Z, o11E, (kn_call fh15 o11K rfl), o19, o19Z, o19E, o19K, o20, o20Z, o20E, o20K, z39, z39Z, z39E, z39e.symm, (by have s1 := x_cK_s b tZ; exact Or.inr ⟨tc_0, by (first | decide +kernel | omega), by (first | decide +kernel | omega), by (first | decide +kernel | omega)⟩)⟩⟩
abbrev q_Reader_isOfOneX_0 (h : Hp)  : Option Value → Hp → Prop := pInt (fun r h' => h = h' ∧ (r.toInt = 0))
set_option maxRecDepth 100000 in
theorem c_Reader_isOfOneX_0 (h : Hp) : Ct y_Reader_isOfOne b_Reader_isOfOne 1 (some .boolean) 0 0 [.int 0] h (q_Reader_isOfOneX_0 h ) := by
  refine ct_ow R_Reader [some (.int 0)] rfl (by decide) rfl (Nat.le_of_ble_eq_true rfl) ?_
  have f0 : fr [] h h := fr_rf
  refine V_iload_n 0 d_Reader_isOfOne_0 rfl rfl ?_
  refine V_iconst 1 d_Reader_isOfOne_1 (by decide) ?_
  refine V_icmp_lt 14 tc_0 tc_1 d_Reader_isOfOne_2 (by decide) (fun c1 => ?_) (fun c1 => ?_)
  ·
    refine V_iconst 0 d_Reader_isOfOne_14 (by decide) ?_
    exact V_zret rfl (by decide) d_Reader_isOfOne_15 ⟨0, rfl, ⟨rfl, (by (try rw [show Int32.toInt 0 = 0 from rfl]) <;> omega)⟩⟩
  ·
    exact absurd c1 (by decide)
abbrev q_Reader_isOfOneX_1 (h : Hp)  : Option Value → Hp → Prop := pInt (fun r h' => h = h' ∧ (r.toInt = 1))
set_option maxRecDepth 100000 in
theorem c_Reader_isOfOneX_1 (h : Hp) : Ct y_Reader_isOfOne b_Reader_isOfOne 1 (some .boolean) 0 0 [.int 1] h (q_Reader_isOfOneX_1 h ) := by
  refine ct_ow R_Reader [some (.int 1)] rfl (by decide) rfl (Nat.le_of_ble_eq_true rfl) ?_
  have f0 : fr [] h h := fr_rf
  refine V_iload_n 0 d_Reader_isOfOne_0 rfl rfl ?_
  refine V_iconst 1 d_Reader_isOfOne_1 (by decide) ?_
  refine V_icmp_lt 14 tc_1 tc_1 d_Reader_isOfOne_2 (by decide) (fun c1 => ?_) (fun c1 => ?_)
  ·
    exact absurd c1 (by decide)
  ·
    refine V_iload_n 0 d_Reader_isOfOne_5 rfl rfl ?_
    refine V_iconst 5 d_Reader_isOfOne_6 (by decide) ?_
    refine V_icmp_gt 14 tc_1 tc_5 d_Reader_isOfOne_7 (by decide) (fun c2 => ?_) (fun c2 => ?_)
    ·
      exact absurd c2 (by decide)
    ·
      refine V_iconst 1 d_Reader_isOfOne_10 (by decide) ?_
      refine V_goto 15 d_Reader_isOfOne_11 (by decide) ?_
      exact V_zret rfl (by decide) d_Reader_isOfOne_15 ⟨1, rfl, ⟨rfl, (by (try rw [show Int32.toInt 1 = 1 from rfl]) <;> omega)⟩⟩
abbrev q_Reader_isOfOneX_2 (h : Hp)  : Option Value → Hp → Prop := pInt (fun r h' => h = h' ∧ (r.toInt = 1))
set_option maxRecDepth 100000 in
theorem c_Reader_isOfOneX_2 (h : Hp) : Ct y_Reader_isOfOne b_Reader_isOfOne 1 (some .boolean) 0 0 [.int 2] h (q_Reader_isOfOneX_2 h ) := by
  refine ct_ow R_Reader [some (.int 2)] rfl (by decide) rfl (Nat.le_of_ble_eq_true rfl) ?_
  have f0 : fr [] h h := fr_rf
  refine V_iload_n 0 d_Reader_isOfOne_0 rfl rfl ?_
  refine V_iconst 1 d_Reader_isOfOne_1 (by decide) ?_
  refine V_icmp_lt 14 tc_2 tc_1 d_Reader_isOfOne_2 (by decide) (fun c1 => ?_) (fun c1 => ?_)
  ·
    exact absurd c1 (by decide)
  ·
    refine V_iload_n 0 d_Reader_isOfOne_5 rfl rfl ?_
    refine V_iconst 5 d_Reader_isOfOne_6 (by decide) ?_
    refine V_icmp_gt 14 tc_2 tc_5 d_Reader_isOfOne_7 (by decide) (fun c2 => ?_) (fun c2 => ?_)
    ·
      exact absurd c2 (by decide)
    ·
      refine V_iconst 1 d_Reader_isOfOne_10 (by decide) ?_
      refine V_goto 15 d_Reader_isOfOne_11 (by decide) ?_
      exact V_zret rfl (by decide) d_Reader_isOfOne_15 ⟨1, rfl, ⟨rfl, (by (try rw [show Int32.toInt 1 = 1 from rfl]) <;> omega)⟩⟩
abbrev q_Reader_isOfOneX_3 (h : Hp)  : Option Value → Hp → Prop := pInt (fun r h' => h = h' ∧ (r.toInt = 1))
set_option maxRecDepth 100000 in
theorem c_Reader_isOfOneX_3 (h : Hp) : Ct y_Reader_isOfOne b_Reader_isOfOne 1 (some .boolean) 0 0 [.int 3] h (q_Reader_isOfOneX_3 h ) := by
  refine ct_ow R_Reader [some (.int 3)] rfl (by decide) rfl (Nat.le_of_ble_eq_true rfl) ?_
  have f0 : fr [] h h := fr_rf
  refine V_iload_n 0 d_Reader_isOfOne_0 rfl rfl ?_
  refine V_iconst 1 d_Reader_isOfOne_1 (by decide) ?_
  refine V_icmp_lt 14 tc_3 tc_1 d_Reader_isOfOne_2 (by decide) (fun c1 => ?_) (fun c1 => ?_)
  ·
    exact absurd c1 (by decide)
  ·
    refine V_iload_n 0 d_Reader_isOfOne_5 rfl rfl ?_
    refine V_iconst 5 d_Reader_isOfOne_6 (by decide) ?_
    refine V_icmp_gt 14 tc_3 tc_5 d_Reader_isOfOne_7 (by decide) (fun c2 => ?_) (fun c2 => ?_)
    ·
      exact absurd c2 (by decide)
    ·
      refine V_iconst 1 d_Reader_isOfOne_10 (by decide) ?_
      refine V_goto 15 d_Reader_isOfOne_11 (by decide) ?_
      exact V_zret rfl (by decide) d_Reader_isOfOne_15 ⟨1, rfl, ⟨rfl, (by (try rw [show Int32.toInt 1 = 1 from rfl]) <;> omega)⟩⟩
abbrev q_Reader_isOfOneX_4 (h : Hp)  : Option Value → Hp → Prop := pInt (fun r h' => h = h' ∧ (r.toInt = 1))
set_option maxRecDepth 100000 in
theorem c_Reader_isOfOneX_4 (h : Hp) : Ct y_Reader_isOfOne b_Reader_isOfOne 1 (some .boolean) 0 0 [.int 4] h (q_Reader_isOfOneX_4 h ) := by
  refine ct_ow R_Reader [some (.int 4)] rfl (by decide) rfl (Nat.le_of_ble_eq_true rfl) ?_
  have f0 : fr [] h h := fr_rf
  refine V_iload_n 0 d_Reader_isOfOne_0 rfl rfl ?_
  refine V_iconst 1 d_Reader_isOfOne_1 (by decide) ?_
  refine V_icmp_lt 14 tc_4 tc_1 d_Reader_isOfOne_2 (by decide) (fun c1 => ?_) (fun c1 => ?_)
  ·
    exact absurd c1 (by decide)
  ·
    refine V_iload_n 0 d_Reader_isOfOne_5 rfl rfl ?_
    refine V_iconst 5 d_Reader_isOfOne_6 (by decide) ?_
    refine V_icmp_gt 14 tc_4 tc_5 d_Reader_isOfOne_7 (by decide) (fun c2 => ?_) (fun c2 => ?_)
    ·
      exact absurd c2 (by decide)
    ·
      refine V_iconst 1 d_Reader_isOfOne_10 (by decide) ?_
      refine V_goto 15 d_Reader_isOfOne_11 (by decide) ?_
      exact V_zret rfl (by decide) d_Reader_isOfOne_15 ⟨1, rfl, ⟨rfl, (by (try rw [show Int32.toInt 1 = 1 from rfl]) <;> omega)⟩⟩
abbrev q_Reader_isOfOneX_5 (h : Hp)  : Option Value → Hp → Prop := pInt (fun r h' => h = h' ∧ (r.toInt = 1))
set_option maxRecDepth 100000 in
theorem c_Reader_isOfOneX_5 (h : Hp) : Ct y_Reader_isOfOne b_Reader_isOfOne 1 (some .boolean) 0 0 [.int 5] h (q_Reader_isOfOneX_5 h ) := by
  refine ct_ow R_Reader [some (.int 5)] rfl (by decide) rfl (Nat.le_of_ble_eq_true rfl) ?_
  have f0 : fr [] h h := fr_rf
  refine V_iload_n 0 d_Reader_isOfOne_0 rfl rfl ?_
  refine V_iconst 1 d_Reader_isOfOne_1 (by decide) ?_
  refine V_icmp_lt 14 tc_5 tc_1 d_Reader_isOfOne_2 (by decide) (fun c1 => ?_) (fun c1 => ?_)
  ·
    exact absurd c1 (by decide)
  ·
    refine V_iload_n 0 d_Reader_isOfOne_5 rfl rfl ?_
    refine V_iconst 5 d_Reader_isOfOne_6 (by decide) ?_
    refine V_icmp_gt 14 tc_5 tc_5 d_Reader_isOfOne_7 (by decide) (fun c2 => ?_) (fun c2 => ?_)
    ·
      exact absurd c2 (by decide)
    ·
      refine V_iconst 1 d_Reader_isOfOne_10 (by decide) ?_
      refine V_goto 15 d_Reader_isOfOne_11 (by decide) ?_
      exact V_zret rfl (by decide) d_Reader_isOfOne_15 ⟨1, rfl, ⟨rfl, (by (try rw [show Int32.toInt 1 = 1 from rfl]) <;> omega)⟩⟩
abbrev q_Reader_isOfOneX_6 (h : Hp)  : Option Value → Hp → Prop := pInt (fun r h' => h = h' ∧ (r.toInt = 0))
set_option maxRecDepth 100000 in
theorem c_Reader_isOfOneX_6 (h : Hp) : Ct y_Reader_isOfOne b_Reader_isOfOne 1 (some .boolean) 0 0 [.int 6] h (q_Reader_isOfOneX_6 h ) := by
  refine ct_ow R_Reader [some (.int 6)] rfl (by decide) rfl (Nat.le_of_ble_eq_true rfl) ?_
  have f0 : fr [] h h := fr_rf
  refine V_iload_n 0 d_Reader_isOfOne_0 rfl rfl ?_
  refine V_iconst 1 d_Reader_isOfOne_1 (by decide) ?_
  refine V_icmp_lt 14 tc_6 tc_1 d_Reader_isOfOne_2 (by decide) (fun c1 => ?_) (fun c1 => ?_)
  ·
    exact absurd c1 (by decide)
  ·
    refine V_iload_n 0 d_Reader_isOfOne_5 rfl rfl ?_
    refine V_iconst 5 d_Reader_isOfOne_6 (by decide) ?_
    refine V_icmp_gt 14 tc_6 tc_5 d_Reader_isOfOne_7 (by decide) (fun c2 => ?_) (fun c2 => ?_)
    ·
      refine V_iconst 0 d_Reader_isOfOne_14 (by decide) ?_
      exact V_zret rfl (by decide) d_Reader_isOfOne_15 ⟨0, rfl, ⟨rfl, (by (try rw [show Int32.toInt 0 = 0 from rfl]) <;> omega)⟩⟩
    ·
      exact absurd c2 (by decide)
abbrev q_Reader_isOfOneX_7 (h : Hp)  : Option Value → Hp → Prop := pInt (fun r h' => h = h' ∧ (r.toInt = 0))
set_option maxRecDepth 100000 in
theorem c_Reader_isOfOneX_7 (h : Hp) : Ct y_Reader_isOfOne b_Reader_isOfOne 1 (some .boolean) 0 0 [.int 7] h (q_Reader_isOfOneX_7 h ) := by
  refine ct_ow R_Reader [some (.int 7)] rfl (by decide) rfl (Nat.le_of_ble_eq_true rfl) ?_
  have f0 : fr [] h h := fr_rf
  refine V_iload_n 0 d_Reader_isOfOne_0 rfl rfl ?_
  refine V_iconst 1 d_Reader_isOfOne_1 (by decide) ?_
  refine V_icmp_lt 14 tc_7 tc_1 d_Reader_isOfOne_2 (by decide) (fun c1 => ?_) (fun c1 => ?_)
  ·
    exact absurd c1 (by decide)
  ·
    refine V_iload_n 0 d_Reader_isOfOne_5 rfl rfl ?_
    refine V_iconst 5 d_Reader_isOfOne_6 (by decide) ?_
    refine V_icmp_gt 14 tc_7 tc_5 d_Reader_isOfOne_7 (by decide) (fun c2 => ?_) (fun c2 => ?_)
    ·
      refine V_iconst 0 d_Reader_isOfOne_14 (by decide) ?_
      exact V_zret rfl (by decide) d_Reader_isOfOne_15 ⟨0, rfl, ⟨rfl, (by (try rw [show Int32.toInt 0 = 0 from rfl]) <;> omega)⟩⟩
    ·
      exact absurd c2 (by decide)
abbrev q_Reader_isOfOneX_8 (h : Hp)  : Option Value → Hp → Prop := pInt (fun r h' => h = h' ∧ (r.toInt = 0))
set_option maxRecDepth 100000 in
theorem c_Reader_isOfOneX_8 (h : Hp) : Ct y_Reader_isOfOne b_Reader_isOfOne 1 (some .boolean) 0 0 [.int 8] h (q_Reader_isOfOneX_8 h ) := by
  refine ct_ow R_Reader [some (.int 8)] rfl (by decide) rfl (Nat.le_of_ble_eq_true rfl) ?_
  have f0 : fr [] h h := fr_rf
  refine V_iload_n 0 d_Reader_isOfOne_0 rfl rfl ?_
  refine V_iconst 1 d_Reader_isOfOne_1 (by decide) ?_
  refine V_icmp_lt 14 tc_8 tc_1 d_Reader_isOfOne_2 (by decide) (fun c1 => ?_) (fun c1 => ?_)
  ·
    exact absurd c1 (by decide)
  ·
    refine V_iload_n 0 d_Reader_isOfOne_5 rfl rfl ?_
    refine V_iconst 5 d_Reader_isOfOne_6 (by decide) ?_
    refine V_icmp_gt 14 tc_8 tc_5 d_Reader_isOfOne_7 (by decide) (fun c2 => ?_) (fun c2 => ?_)
    ·
      refine V_iconst 0 d_Reader_isOfOne_14 (by decide) ?_
      exact V_zret rfl (by decide) d_Reader_isOfOne_15 ⟨0, rfl, ⟨rfl, (by (try rw [show Int32.toInt 0 = 0 from rfl]) <;> omega)⟩⟩
    ·
      exact absurd c2 (by decide)
abbrev q_Reader_isOfOneX_9 (h : Hp)  : Option Value → Hp → Prop := pInt (fun r h' => h = h' ∧ (r.toInt = 0))
set_option maxRecDepth 100000 in
theorem c_Reader_isOfOneX_9 (h : Hp) : Ct y_Reader_isOfOne b_Reader_isOfOne 1 (some .boolean) 0 0 [.int 9] h (q_Reader_isOfOneX_9 h ) := by
  refine ct_ow R_Reader [some (.int 9)] rfl (by decide) rfl (Nat.le_of_ble_eq_true rfl) ?_
  have f0 : fr [] h h := fr_rf
  refine V_iload_n 0 d_Reader_isOfOne_0 rfl rfl ?_
  refine V_iconst 1 d_Reader_isOfOne_1 (by decide) ?_
  refine V_icmp_lt 14 tc_9 tc_1 d_Reader_isOfOne_2 (by decide) (fun c1 => ?_) (fun c1 => ?_)
  ·
    exact absurd c1 (by decide)
  ·
    refine V_iload_n 0 d_Reader_isOfOne_5 rfl rfl ?_
    refine V_iconst 5 d_Reader_isOfOne_6 (by decide) ?_
    refine V_icmp_gt 14 tc_9 tc_5 d_Reader_isOfOne_7 (by decide) (fun c2 => ?_) (fun c2 => ?_)
    ·
      refine V_iconst 0 d_Reader_isOfOne_14 (by decide) ?_
      exact V_zret rfl (by decide) d_Reader_isOfOne_15 ⟨0, rfl, ⟨rfl, (by (try rw [show Int32.toInt 0 = 0 from rfl]) <;> omega)⟩⟩
    ·
      exact absurd c2 (by decide)
abbrev q_Reader_isOnceOnlyX_0 (h : Hp)  : Option Value → Hp → Prop := pInt (fun r h' => h = h' ∧ (r.toInt = 1))
set_option maxRecDepth 100000 in
theorem c_Reader_isOnceOnlyX_0 (h : Hp) : Ct y_Reader_isOnceOnly b_Reader_isOnceOnly 1 (some .boolean) 0 0 [.int 0] h (q_Reader_isOnceOnlyX_0 h ) := by
  refine ct_ow R_Reader [some (.int 0)] rfl (by decide) rfl (Nat.le_of_ble_eq_true rfl) ?_
  have f0 : fr [] h h := fr_rf
  refine V_iload_n 0 d_Reader_isOnceOnly_0 rfl rfl ?_
  refine V_if_eq 22 tc_0 d_Reader_isOnceOnly_1 (by decide) (fun c1 => ?_) (fun c1 => ?_)
  ·
    refine V_iconst 1 d_Reader_isOnceOnly_22 (by decide) ?_
    refine V_goto 27 d_Reader_isOnceOnly_23 (by decide) ?_
    exact V_zret rfl (by decide) d_Reader_isOnceOnly_27 ⟨1, rfl, ⟨rfl, (by (try rw [show Int32.toInt 1 = 1 from rfl]) <;> omega)⟩⟩
  ·
    exact absurd c1 (by decide)
abbrev q_Reader_isOnceOnlyX_1 (h : Hp)  : Option Value → Hp → Prop := pInt (fun r h' => h = h' ∧ (r.toInt = 0))
set_option maxRecDepth 100000 in
theorem c_Reader_isOnceOnlyX_1 (h : Hp) : Ct y_Reader_isOnceOnly b_Reader_isOnceOnly 1 (some .boolean) 0 0 [.int 1] h (q_Reader_isOnceOnlyX_1 h ) := by
  refine ct_ow R_Reader [some (.int 1)] rfl (by decide) rfl (Nat.le_of_ble_eq_true rfl) ?_
  have f0 : fr [] h h := fr_rf
  refine V_iload_n 0 d_Reader_isOnceOnly_0 rfl rfl ?_
  refine V_if_eq 22 tc_1 d_Reader_isOnceOnly_1 (by decide) (fun c1 => ?_) (fun c1 => ?_)
  ·
    exact absurd c1 (by decide)
  ·
    refine V_iload_n 0 d_Reader_isOnceOnly_4 rfl rfl ?_
    refine V_bipush 6 d_Reader_isOnceOnly_5 (by decide) ?_
    refine V_icmp_eq 22 tc_1 tc_6 d_Reader_isOnceOnly_7 (by decide) (fun c2 => ?_) (fun c2 => ?_)
    ·
      exact absurd c2 (by decide)
    ·
      refine V_iload_n 0 d_Reader_isOnceOnly_10 rfl rfl ?_
      refine V_bipush 7 d_Reader_isOnceOnly_11 (by decide) ?_
      refine V_icmp_eq 22 tc_1 tc_7 d_Reader_isOnceOnly_13 (by decide) (fun c3 => ?_) (fun c3 => ?_)
      ·
        exact absurd c3 (by decide)
      ·
        refine V_iload_n 0 d_Reader_isOnceOnly_16 rfl rfl ?_
        refine V_bipush 8 d_Reader_isOnceOnly_17 (by decide) ?_
        refine V_icmp_ne 26 tc_1 tc_8 d_Reader_isOnceOnly_19 (by decide) (fun c4 => ?_) (fun c4 => ?_)
        ·
          refine V_iconst 0 d_Reader_isOnceOnly_26 (by decide) ?_
          exact V_zret rfl (by decide) d_Reader_isOnceOnly_27 ⟨0, rfl, ⟨rfl, (by (try rw [show Int32.toInt 0 = 0 from rfl]) <;> omega)⟩⟩
        ·
          exact absurd c4 (by decide)
abbrev q_Reader_isOnceOnlyX_2 (h : Hp)  : Option Value → Hp → Prop := pInt (fun r h' => h = h' ∧ (r.toInt = 0))
set_option maxRecDepth 100000 in
theorem c_Reader_isOnceOnlyX_2 (h : Hp) : Ct y_Reader_isOnceOnly b_Reader_isOnceOnly 1 (some .boolean) 0 0 [.int 2] h (q_Reader_isOnceOnlyX_2 h ) := by
  refine ct_ow R_Reader [some (.int 2)] rfl (by decide) rfl (Nat.le_of_ble_eq_true rfl) ?_
  have f0 : fr [] h h := fr_rf
  refine V_iload_n 0 d_Reader_isOnceOnly_0 rfl rfl ?_
  refine V_if_eq 22 tc_2 d_Reader_isOnceOnly_1 (by decide) (fun c1 => ?_) (fun c1 => ?_)
  ·
    exact absurd c1 (by decide)
  ·
    refine V_iload_n 0 d_Reader_isOnceOnly_4 rfl rfl ?_
    refine V_bipush 6 d_Reader_isOnceOnly_5 (by decide) ?_
    refine V_icmp_eq 22 tc_2 tc_6 d_Reader_isOnceOnly_7 (by decide) (fun c2 => ?_) (fun c2 => ?_)
    ·
      exact absurd c2 (by decide)
    ·
      refine V_iload_n 0 d_Reader_isOnceOnly_10 rfl rfl ?_
      refine V_bipush 7 d_Reader_isOnceOnly_11 (by decide) ?_
      refine V_icmp_eq 22 tc_2 tc_7 d_Reader_isOnceOnly_13 (by decide) (fun c3 => ?_) (fun c3 => ?_)
      ·
        exact absurd c3 (by decide)
      ·
        refine V_iload_n 0 d_Reader_isOnceOnly_16 rfl rfl ?_
        refine V_bipush 8 d_Reader_isOnceOnly_17 (by decide) ?_
        refine V_icmp_ne 26 tc_2 tc_8 d_Reader_isOnceOnly_19 (by decide) (fun c4 => ?_) (fun c4 => ?_)
        ·
          refine V_iconst 0 d_Reader_isOnceOnly_26 (by decide) ?_
          exact V_zret rfl (by decide) d_Reader_isOnceOnly_27 ⟨0, rfl, ⟨rfl, (by (try rw [show Int32.toInt 0 = 0 from rfl]) <;> omega)⟩⟩
        ·
          exact absurd c4 (by decide)
abbrev q_Reader_isOnceOnlyX_3 (h : Hp)  : Option Value → Hp → Prop := pInt (fun r h' => h = h' ∧ (r.toInt = 0))
set_option maxRecDepth 100000 in
theorem c_Reader_isOnceOnlyX_3 (h : Hp) : Ct y_Reader_isOnceOnly b_Reader_isOnceOnly 1 (some .boolean) 0 0 [.int 3] h (q_Reader_isOnceOnlyX_3 h ) := by
  refine ct_ow R_Reader [some (.int 3)] rfl (by decide) rfl (Nat.le_of_ble_eq_true rfl) ?_
  have f0 : fr [] h h := fr_rf
  refine V_iload_n 0 d_Reader_isOnceOnly_0 rfl rfl ?_
  refine V_if_eq 22 tc_3 d_Reader_isOnceOnly_1 (by decide) (fun c1 => ?_) (fun c1 => ?_)
  ·
    exact absurd c1 (by decide)
  ·
    refine V_iload_n 0 d_Reader_isOnceOnly_4 rfl rfl ?_
    refine V_bipush 6 d_Reader_isOnceOnly_5 (by decide) ?_
    refine V_icmp_eq 22 tc_3 tc_6 d_Reader_isOnceOnly_7 (by decide) (fun c2 => ?_) (fun c2 => ?_)
    ·
      exact absurd c2 (by decide)
    ·
      refine V_iload_n 0 d_Reader_isOnceOnly_10 rfl rfl ?_
      refine V_bipush 7 d_Reader_isOnceOnly_11 (by decide) ?_
      refine V_icmp_eq 22 tc_3 tc_7 d_Reader_isOnceOnly_13 (by decide) (fun c3 => ?_) (fun c3 => ?_)
      ·
        exact absurd c3 (by decide)
      ·
        refine V_iload_n 0 d_Reader_isOnceOnly_16 rfl rfl ?_
        refine V_bipush 8 d_Reader_isOnceOnly_17 (by decide) ?_
        refine V_icmp_ne 26 tc_3 tc_8 d_Reader_isOnceOnly_19 (by decide) (fun c4 => ?_) (fun c4 => ?_)
        ·
          refine V_iconst 0 d_Reader_isOnceOnly_26 (by decide) ?_
          exact V_zret rfl (by decide) d_Reader_isOnceOnly_27 ⟨0, rfl, ⟨rfl, (by (try rw [show Int32.toInt 0 = 0 from rfl]) <;> omega)⟩⟩
        ·
          exact absurd c4 (by decide)
abbrev q_Reader_isOnceOnlyX_4 (h : Hp)  : Option Value → Hp → Prop := pInt (fun r h' => h = h' ∧ (r.toInt = 0))
set_option maxRecDepth 100000 in
theorem c_Reader_isOnceOnlyX_4 (h : Hp) : Ct y_Reader_isOnceOnly b_Reader_isOnceOnly 1 (some .boolean) 0 0 [.int 4] h (q_Reader_isOnceOnlyX_4 h ) := by
  refine ct_ow R_Reader [some (.int 4)] rfl (by decide) rfl (Nat.le_of_ble_eq_true rfl) ?_
  have f0 : fr [] h h := fr_rf
  refine V_iload_n 0 d_Reader_isOnceOnly_0 rfl rfl ?_
  refine V_if_eq 22 tc_4 d_Reader_isOnceOnly_1 (by decide) (fun c1 => ?_) (fun c1 => ?_)
  ·
    exact absurd c1 (by decide)
  ·
    refine V_iload_n 0 d_Reader_isOnceOnly_4 rfl rfl ?_
    refine V_bipush 6 d_Reader_isOnceOnly_5 (by decide) ?_
    refine V_icmp_eq 22 tc_4 tc_6 d_Reader_isOnceOnly_7 (by decide) (fun c2 => ?_) (fun c2 => ?_)
    ·
      exact absurd c2 (by decide)
    ·
      refine V_iload_n 0 d_Reader_isOnceOnly_10 rfl rfl ?_
      refine V_bipush 7 d_Reader_isOnceOnly_11 (by decide) ?_
      refine V_icmp_eq 22 tc_4 tc_7 d_Reader_isOnceOnly_13 (by decide) (fun c3 => ?_) (fun c3 => ?_)
      ·
        exact absurd c3 (by decide)
      ·
        refine V_iload_n 0 d_Reader_isOnceOnly_16 rfl rfl ?_
        refine V_bipush 8 d_Reader_isOnceOnly_17 (by decide) ?_
        refine V_icmp_ne 26 tc_4 tc_8 d_Reader_isOnceOnly_19 (by decide) (fun c4 => ?_) (fun c4 => ?_)
        ·
          refine V_iconst 0 d_Reader_isOnceOnly_26 (by decide) ?_
          exact V_zret rfl (by decide) d_Reader_isOnceOnly_27 ⟨0, rfl, ⟨rfl, (by (try rw [show Int32.toInt 0 = 0 from rfl]) <;> omega)⟩⟩
        ·
          exact absurd c4 (by decide)
abbrev q_Reader_isOnceOnlyX_5 (h : Hp)  : Option Value → Hp → Prop := pInt (fun r h' => h = h' ∧ (r.toInt = 0))
set_option maxRecDepth 100000 in
theorem c_Reader_isOnceOnlyX_5 (h : Hp) : Ct y_Reader_isOnceOnly b_Reader_isOnceOnly 1 (some .boolean) 0 0 [.int 5] h (q_Reader_isOnceOnlyX_5 h ) := by
  refine ct_ow R_Reader [some (.int 5)] rfl (by decide) rfl (Nat.le_of_ble_eq_true rfl) ?_
  have f0 : fr [] h h := fr_rf
  refine V_iload_n 0 d_Reader_isOnceOnly_0 rfl rfl ?_
  refine V_if_eq 22 tc_5 d_Reader_isOnceOnly_1 (by decide) (fun c1 => ?_) (fun c1 => ?_)
  ·
    exact absurd c1 (by decide)
  ·
    refine V_iload_n 0 d_Reader_isOnceOnly_4 rfl rfl ?_
    refine V_bipush 6 d_Reader_isOnceOnly_5 (by decide) ?_
    refine V_icmp_eq 22 tc_5 tc_6 d_Reader_isOnceOnly_7 (by decide) (fun c2 => ?_) (fun c2 => ?_)
    ·
      exact absurd c2 (by decide)
    ·
      refine V_iload_n 0 d_Reader_isOnceOnly_10 rfl rfl ?_
      refine V_bipush 7 d_Reader_isOnceOnly_11 (by decide) ?_
      refine V_icmp_eq 22 tc_5 tc_7 d_Reader_isOnceOnly_13 (by decide) (fun c3 => ?_) (fun c3 => ?_)
      ·
        exact absurd c3 (by decide)
      ·
        refine V_iload_n 0 d_Reader_isOnceOnly_16 rfl rfl ?_
        refine V_bipush 8 d_Reader_isOnceOnly_17 (by decide) ?_
        refine V_icmp_ne 26 tc_5 tc_8 d_Reader_isOnceOnly_19 (by decide) (fun c4 => ?_) (fun c4 => ?_)
        ·
          refine V_iconst 0 d_Reader_isOnceOnly_26 (by decide) ?_
          exact V_zret rfl (by decide) d_Reader_isOnceOnly_27 ⟨0, rfl, ⟨rfl, (by (try rw [show Int32.toInt 0 = 0 from rfl]) <;> omega)⟩⟩
        ·
          exact absurd c4 (by decide)
abbrev q_Reader_isOnceOnlyX_6 (h : Hp)  : Option Value → Hp → Prop := pInt (fun r h' => h = h' ∧ (r.toInt = 1))
set_option maxRecDepth 100000 in
theorem c_Reader_isOnceOnlyX_6 (h : Hp) : Ct y_Reader_isOnceOnly b_Reader_isOnceOnly 1 (some .boolean) 0 0 [.int 6] h (q_Reader_isOnceOnlyX_6 h ) := by
  refine ct_ow R_Reader [some (.int 6)] rfl (by decide) rfl (Nat.le_of_ble_eq_true rfl) ?_
  have f0 : fr [] h h := fr_rf
  refine V_iload_n 0 d_Reader_isOnceOnly_0 rfl rfl ?_
  refine V_if_eq 22 tc_6 d_Reader_isOnceOnly_1 (by decide) (fun c1 => ?_) (fun c1 => ?_)
  ·
    exact absurd c1 (by decide)
  ·
    refine V_iload_n 0 d_Reader_isOnceOnly_4 rfl rfl ?_
    refine V_bipush 6 d_Reader_isOnceOnly_5 (by decide) ?_
    refine V_icmp_eq 22 tc_6 tc_6 d_Reader_isOnceOnly_7 (by decide) (fun c2 => ?_) (fun c2 => ?_)
    ·
      refine V_iconst 1 d_Reader_isOnceOnly_22 (by decide) ?_
      refine V_goto 27 d_Reader_isOnceOnly_23 (by decide) ?_
      exact V_zret rfl (by decide) d_Reader_isOnceOnly_27 ⟨1, rfl, ⟨rfl, (by (try rw [show Int32.toInt 1 = 1 from rfl]) <;> omega)⟩⟩
    ·
      exact absurd c2 (by decide)
abbrev q_Reader_isOnceOnlyX_7 (h : Hp)  : Option Value → Hp → Prop := pInt (fun r h' => h = h' ∧ (r.toInt = 1))
set_option maxRecDepth 100000 in
theorem c_Reader_isOnceOnlyX_7 (h : Hp) : Ct y_Reader_isOnceOnly b_Reader_isOnceOnly 1 (some .boolean) 0 0 [.int 7] h (q_Reader_isOnceOnlyX_7 h ) := by
  refine ct_ow R_Reader [some (.int 7)] rfl (by decide) rfl (Nat.le_of_ble_eq_true rfl) ?_
  have f0 : fr [] h h := fr_rf
  refine V_iload_n 0 d_Reader_isOnceOnly_0 rfl rfl ?_
  refine V_if_eq 22 tc_7 d_Reader_isOnceOnly_1 (by decide) (fun c1 => ?_) (fun c1 => ?_)
  ·
    exact absurd c1 (by decide)
  ·
    refine V_iload_n 0 d_Reader_isOnceOnly_4 rfl rfl ?_
    refine V_bipush 6 d_Reader_isOnceOnly_5 (by decide) ?_
    refine V_icmp_eq 22 tc_7 tc_6 d_Reader_isOnceOnly_7 (by decide) (fun c2 => ?_) (fun c2 => ?_)
    ·
      exact absurd c2 (by decide)
    ·
      refine V_iload_n 0 d_Reader_isOnceOnly_10 rfl rfl ?_
      refine V_bipush 7 d_Reader_isOnceOnly_11 (by decide) ?_
      refine V_icmp_eq 22 tc_7 tc_7 d_Reader_isOnceOnly_13 (by decide) (fun c3 => ?_) (fun c3 => ?_)
      ·
        refine V_iconst 1 d_Reader_isOnceOnly_22 (by decide) ?_
        refine V_goto 27 d_Reader_isOnceOnly_23 (by decide) ?_
        exact V_zret rfl (by decide) d_Reader_isOnceOnly_27 ⟨1, rfl, ⟨rfl, (by (try rw [show Int32.toInt 1 = 1 from rfl]) <;> omega)⟩⟩
      ·
        exact absurd c3 (by decide)
abbrev q_Reader_isOnceOnlyX_8 (h : Hp)  : Option Value → Hp → Prop := pInt (fun r h' => h = h' ∧ (r.toInt = 1))
set_option maxRecDepth 100000 in
theorem c_Reader_isOnceOnlyX_8 (h : Hp) : Ct y_Reader_isOnceOnly b_Reader_isOnceOnly 1 (some .boolean) 0 0 [.int 8] h (q_Reader_isOnceOnlyX_8 h ) := by
  refine ct_ow R_Reader [some (.int 8)] rfl (by decide) rfl (Nat.le_of_ble_eq_true rfl) ?_
  have f0 : fr [] h h := fr_rf
  refine V_iload_n 0 d_Reader_isOnceOnly_0 rfl rfl ?_
  refine V_if_eq 22 tc_8 d_Reader_isOnceOnly_1 (by decide) (fun c1 => ?_) (fun c1 => ?_)
  ·
    exact absurd c1 (by decide)
  ·
    refine V_iload_n 0 d_Reader_isOnceOnly_4 rfl rfl ?_
    refine V_bipush 6 d_Reader_isOnceOnly_5 (by decide) ?_
    refine V_icmp_eq 22 tc_8 tc_6 d_Reader_isOnceOnly_7 (by decide) (fun c2 => ?_) (fun c2 => ?_)
    ·
      exact absurd c2 (by decide)
    ·
      refine V_iload_n 0 d_Reader_isOnceOnly_10 rfl rfl ?_
      refine V_bipush 7 d_Reader_isOnceOnly_11 (by decide) ?_
      refine V_icmp_eq 22 tc_8 tc_7 d_Reader_isOnceOnly_13 (by decide) (fun c3 => ?_) (fun c3 => ?_)
      ·
        exact absurd c3 (by decide)
      ·
        refine V_iload_n 0 d_Reader_isOnceOnly_16 rfl rfl ?_
        refine V_bipush 8 d_Reader_isOnceOnly_17 (by decide) ?_
        refine V_icmp_ne 26 tc_8 tc_8 d_Reader_isOnceOnly_19 (by decide) (fun c4 => ?_) (fun c4 => ?_)
        ·
          exact absurd c4 (by decide)
        ·
          refine V_iconst 1 d_Reader_isOnceOnly_22 (by decide) ?_
          refine V_goto 27 d_Reader_isOnceOnly_23 (by decide) ?_
          exact V_zret rfl (by decide) d_Reader_isOnceOnly_27 ⟨1, rfl, ⟨rfl, (by (try rw [show Int32.toInt 1 = 1 from rfl]) <;> omega)⟩⟩
abbrev q_Reader_isOnceOnlyX_9 (h : Hp)  : Option Value → Hp → Prop := pInt (fun r h' => h = h' ∧ (r.toInt = 0))
set_option maxRecDepth 100000 in
theorem c_Reader_isOnceOnlyX_9 (h : Hp) : Ct y_Reader_isOnceOnly b_Reader_isOnceOnly 1 (some .boolean) 0 0 [.int 9] h (q_Reader_isOnceOnlyX_9 h ) := by
  refine ct_ow R_Reader [some (.int 9)] rfl (by decide) rfl (Nat.le_of_ble_eq_true rfl) ?_
  have f0 : fr [] h h := fr_rf
  refine V_iload_n 0 d_Reader_isOnceOnly_0 rfl rfl ?_
  refine V_if_eq 22 tc_9 d_Reader_isOnceOnly_1 (by decide) (fun c1 => ?_) (fun c1 => ?_)
  ·
    exact absurd c1 (by decide)
  ·
    refine V_iload_n 0 d_Reader_isOnceOnly_4 rfl rfl ?_
    refine V_bipush 6 d_Reader_isOnceOnly_5 (by decide) ?_
    refine V_icmp_eq 22 tc_9 tc_6 d_Reader_isOnceOnly_7 (by decide) (fun c2 => ?_) (fun c2 => ?_)
    ·
      exact absurd c2 (by decide)
    ·
      refine V_iload_n 0 d_Reader_isOnceOnly_10 rfl rfl ?_
      refine V_bipush 7 d_Reader_isOnceOnly_11 (by decide) ?_
      refine V_icmp_eq 22 tc_9 tc_7 d_Reader_isOnceOnly_13 (by decide) (fun c3 => ?_) (fun c3 => ?_)
      ·
        exact absurd c3 (by decide)
      ·
        refine V_iload_n 0 d_Reader_isOnceOnly_16 rfl rfl ?_
        refine V_bipush 8 d_Reader_isOnceOnly_17 (by decide) ?_
        refine V_icmp_ne 26 tc_9 tc_8 d_Reader_isOnceOnly_19 (by decide) (fun c4 => ?_) (fun c4 => ?_)
        ·
          refine V_iconst 0 d_Reader_isOnceOnly_26 (by decide) ?_
          exact V_zret rfl (by decide) d_Reader_isOnceOnly_27 ⟨0, rfl, ⟨rfl, (by (try rw [show Int32.toInt 0 = 0 from rfl]) <;> omega)⟩⟩
        ·
          exact absurd c4 (by decide)
def S_Reader_readNumberX_0_0 : List (Nat × Option Nat) := [(89, some 2), (89, some 3), (89, some 4), (89, some 5), (88, some 5), (88, some 6), (91, some 0)]
abbrev q_Reader_readNumberX_0_0 (h : Hp) (b : Int → Int) (T : Nat → Int → Int) (s : Int32) (sZ : Int) (t : Int32) (tZ : Int) (a : Int32) (aZ : Int) (w : Int32) (wZ : Int) : Option Value → Hp → Prop := pInt (fun r h' => Inv h' ∧ fr S_Reader_readNumberX_0_0 h h' ∧ ∃ (k : Int32) (kZ : Int), k.toInt = kZ ∧ h'.1 89 2 = k ∧ ∃ (f : Int32) (fZ : Int), f.toInt = fZ ∧ h'.1 89 3 = f ∧ ∃ (u : Int32) (uZ : Int), u.toInt = uZ ∧ h'.1 89 4 = u ∧ ∃ (v : Int32) (vZ : Int), v.toInt = vZ ∧ h'.1 89 5 = v ∧ ∃ (e : Int32) (eZ : Int), e.toInt = eZ ∧ h'.1 88 6 = e ∧ ∃ (y : Int32) (yZ : Int), y.toInt = yZ ∧ h'.1 88 5 = y ∧ ∃ (x : Int32) (xZ : Int), x.toInt = xZ ∧ h'.1 91 0 = x ∧ (r.toInt = 1 ∧ x_cN b tZ 2 4 = 0 ∧ uZ = x_en b tZ ∧ xZ = x_vl b tZ ∧ eZ = wZ ∧ yZ = aZ ∧ tZ < uZ ∧ uZ ≤ sZ ∨ r.toInt = 0 ∧ (x_cN b tZ 2 4 ≠ 0 ∧ eZ = x_cN b tZ 2 4) ∧ yZ = x_fr b tZ))
set_option maxRecDepth 100000 in
theorem c_Reader_readNumberX_0_0 (h : Hp) (b : Int → Int) (T : Nat → Int → Int) (hI : Inv h) (s : Int32) (sZ : Int) (sE : s.toInt = sZ) (sK : h.1 89 1 = s) (t : Int32) (tZ : Int) (tE : t.toInt = tZ) (tK : h.1 89 4 = t) (a : Int32) (aZ : Int) (aE : a.toInt = aZ) (aK : h.1 88 5 = a) (w : Int32) (wZ : Int) (wE : w.toInt = wZ) (wK : h.1 88 6 = w) (hy0 : TP h 90 sZ b) (hy1 : 0 ≤ tZ ∧ tZ ≤ sZ) : Ct y_Reader_readNumber b_Reader_readNumber 6 (some .boolean) 3 60 [.ref 88, .int 0, .int 0] h (q_Reader_readNumberX_0_0 h b T s sZ t tZ a aZ w wZ) := by
  refine ct_ow R_Reader [some (.ref 88), some (.int 0), some (.int 0), none, none, none] rfl (by decide) rfl (Nat.le_of_ble_eq_true rfl) ?_
  have f0 : fr S_Reader_readNumberX_0_0 h h := fr_rf
  have g1 : 0 ≤ sZ ∧ sZ ≤ 160 := inv_at hI sE sK.symm rfl
  have g2 : 0 ≤ tZ ∧ tZ ≤ 160 := inv_at hI tE tK.symm rfl
  refine V_aload_n 0 d_Reader_readNumber_0 rfl rfl ?_
  refine V_getR fa_Reader_12 sk_88 rfl d_Reader_readNumber_1 ?_
  refine N_callVV [] [] cv_Reader_48 sk_89 rfl d_Reader_readNumber_4 rfl (Nat.le_of_ble_eq_true rfl) (by decide) (by decide) (c_Tape_advanceX h b hI s sZ sE sK t tZ tE tK (TP_fr f0 (fun _ => rfl) hy0) (by (first | decide +kernel | omega))) (fun h4 p5 => ?_)
  obtain ⟨hI6, fh4, o8, o8Z, o8E, o8K, o9, o9Z, o9E, o9K, o10, o10Z, o10E, o10K, o11, o11Z, o11E, o11K, p5⟩ := p5
  have f7 : fr S_Reader_readNumberX_0_0 h h4 := fr_call f0 fh4 rfl
  have g12 : 0 ≤ o9Z ∧ o9Z ≤ 160 := inv_at hI6 o9E o9K.symm rfl
  have g13 : 0 ≤ o10Z ∧ o10Z ≤ 160 := inv_at hI6 o10E o10K.symm rfl
  refine V_aload_n 0 d_Reader_readNumber_7 rfl rfl ?_
  refine V_iconst 2 d_Reader_readNumber_8 (by decide) ?_
  refine N_callVI [.int 2] [] cv_Reader_84 sk_88 rfl d_Reader_readNumber_9 rfl (Nat.le_of_ble_eq_true rfl) (by decide) (by decide) (c_Reader_isKindX h4 hI6 2 2 tc_2 o8 o8Z o8E o8K o9 o9Z o9E o9K a aZ aE (kn_call fh4 aK rfl) w wZ wE (kn_call fh4 wK rfl)) (fun z14 h15 z14Z z14E p16 => ?_)
  obtain ⟨hI17, fh15, o19, o19Z, o19E, o19K, o20, o20Z, o20E, o20K, p16⟩ := p16
  have f18 : fr S_Reader_readNumberX_0_0 h h15 := fr_call f7 fh15 rfl
  refine V_if_ne 17 z14E d_Reader_readNumber_12 (by decide) (fun c21 => ?_) (fun c21 => ?_)
  ·
    replace p16 := kd_y p16 (by (first | decide +kernel | omega))
    replace p5 := adv_2 p5 (by (first | decide +kernel | omega))
    refine V_aload_n 0 d_Reader_readNumber_17 rfl rfl ?_
    refine V_getR fa_Reader_12 sk_88 rfl d_Reader_readNumber_18 ?_
    refine N_getK fa_Reader_122 sk_89 rfl d_Reader_readNumber_21 (kn_call fh15 o11K rfl) ?_
    refine V_istore_n 3 [some (.ref 88), some (.int 0), some (.int 0), some (.int o11), none, none] d_Reader_readNumber_24 rfl (by decide) rfl rfl ?_
    refine V_iload_n 3 d_Reader_readNumber_25 rfl rfl ?_
    refine V_gets (v := .ref 133) zL ws_Reader_125 d_Reader_readNumber_26 ?_
    refine V_iconst 3 d_Reader_readNumber_29 (by decide) ?_
    refine V_iload_n 1 d_Reader_readNumber_30 rfl rfl ?_
    refine V_imulw d_Reader_readNumber_31 (fun z22 z22e => ?_)
    obtain rfl : z22 = 0 := z22e.trans (by decide)
    refine V_iload_n 2 d_Reader_readNumber_32 rfl rfl ?_
    refine V_iaddw d_Reader_readNumber_33 (fun z23 z23e => ?_)
    obtain rfl : z23 = 0 := z23e.trans (by decide)
    refine V_tald roL tc_0 (by decide) d_Reader_readNumber_34 (fun z24 z24Z z24E z24e => ?_)
    obtain rfl : z24 = 2 := z24e.trans rfl
    refine V_icmp_lt 51 o11E tc_2 d_Reader_readNumber_35 (by decide) (fun c25 => ?_) (fun c25 => ?_)
    ·
      refine V_aload_n 0 d_Reader_readNumber_51 rfl rfl ?_
      refine V_iconst 3 d_Reader_readNumber_52 (by decide) ?_
      refine V_aload_n 0 d_Reader_readNumber_53 rfl rfl ?_
      refine V_getR fa_Reader_12 sk_88 rfl d_Reader_readNumber_54 ?_
      refine N_getK fa_Reader_81 sk_89 rfl d_Reader_readNumber_57 (kn_call fh15 o9K rfl) ?_
      refine N_callVI [.int 3, .int o9] [] cv_Reader_64 sk_88 rfl d_Reader_readNumber_60 rfl (Nat.le_of_ble_eq_true rfl) (by decide) (by decide) (c_Reader_isRefusedX h15 hI17 3 3 tc_3 o9 o9Z o9E) (fun z26 h27 z26Z z26E p28 => ?_)
      obtain ⟨hI29, fh27, o31, o31Z, o31E, o31K, o32, o32Z, o32E, o32K, p28⟩ := p28
      have f30 : fr S_Reader_readNumberX_0_0 h h27 := fr_call f18 fh27 rfl
      obtain ⟨z33, z33Z, z33E, z33e⟩ : ∃ (y : Int32) (Y : Int), y.toInt = Y ∧ y = h27.1 91 0 := ⟨_, _, rfl, rfl⟩
      exact V_zret rfl (by rw [z26E]; omega) d_Reader_readNumber_63 ⟨z26, rfl, ⟨hI29, f30, o8, o8Z, o8E, (kn_call fh27 (kn_call fh15 o8K rfl) rfl), o9, o9Z, o9E, (kn_call fh27 (kn_call fh15 o9K rfl) rfl), o10, o10Z, o10E, (kn_call fh27 (kn_call fh15 o10K rfl) rfl), o11, o11Z, o11E, (kn_call fh27 (kn_call fh15 o11K rfl) rfl), o31, o31Z, o31E, o31K, o32, o32Z, o32E, o32K, z33, z33Z, z33E, z33e.symm, (by have s1 := num_3 (lo := 2) (hi := 4) p5.2.2.1 p5.2.2.2.2.1 (by (first | decide +kernel | omega)); exact Or.inr ⟨by (first | decide +kernel | omega), ⟨by (first | decide +kernel | omega), by (first | decide +kernel | omega)⟩, by (first | decide +kernel | omega)⟩)⟩⟩
    ·
      refine V_iload_n 3 d_Reader_readNumber_38 rfl rfl ?_
      refine V_gets (v := .ref 134) zM ws_Reader_128 d_Reader_readNumber_39 ?_
      refine V_iconst 3 d_Reader_readNumber_42 (by decide) ?_
      refine V_iload_n 1 d_Reader_readNumber_43 rfl rfl ?_
      refine V_imulw d_Reader_readNumber_44 (fun z34 z34e => ?_)
      obtain rfl : z34 = 0 := z34e.trans (by decide)
      refine V_iload_n 2 d_Reader_readNumber_45 rfl rfl ?_
      refine V_iaddw d_Reader_readNumber_46 (fun z35 z35e => ?_)
      obtain rfl : z35 = 0 := z35e.trans (by decide)
      refine V_tald roM tc_0 (by decide) d_Reader_readNumber_47 (fun z36 z36Z z36E z36e => ?_)
      obtain rfl : z36 = 4 := z36e.trans rfl
      refine V_icmp_le 64 o11E tc_4 d_Reader_readNumber_48 (by decide) (fun c37 => ?_) (fun c37 => ?_)
      ·
        refine V_aload_n 0 d_Reader_readNumber_64 rfl rfl ?_
        refine V_getR fa_Reader_25 sk_88 rfl d_Reader_readNumber_65 ?_
        refine V_iload_n 2 d_Reader_readNumber_68 rfl rfl ?_
        refine V_iload_n 3 d_Reader_readNumber_69 rfl rfl ?_
        refine N_iast sk_91 tc_0 (by (first | decide +kernel | omega)) d_Reader_readNumber_70 (fun h38 eh38 => ?_)
        have hI39 : Inv h38 := inv_full hI17 eh38 rfl
        have f40 : fr S_Reader_readNumberX_0_0 h h38 := fr_put f18 eh38 rfl
        refine V_iload_n 2 d_Reader_readNumber_71 rfl rfl ?_
        refine V_if_ne 99 tc_0 d_Reader_readNumber_72 (by decide) (fun c41 => ?_) (fun c41 => ?_)
        ·
          exact absurd c41 (by decide)
        ·
          refine V_iload_n 1 d_Reader_readNumber_75 rfl rfl ?_
          refine N_callSI [.int 0] [] cs_Reader_131 d_Reader_readNumber_76 rfl (Nat.le_of_ble_eq_true rfl) (by decide) (by decide) (c_Reader_isOfOneX_0 h38) (fun z42 h43 z42Z z42E p44 => ?_)
          obtain ⟨eh43, p44⟩ := p44
          subst eh43
          refine V_if_eq 99 z42E d_Reader_readNumber_79 (by decide) (fun c45 => ?_) (fun c45 => ?_)
          ·
            refine V_iconst 0 d_Reader_readNumber_99 (by decide) ?_
            refine V_istore 4 [some (.ref 88), some (.int 0), some (.int 0), some (.int o11), some (.int 0), none] d_Reader_readNumber_100 (by decide) rfl rfl ?_
            refine V_iload_n 2 d_Reader_readNumber_102 rfl rfl ?_
            refine V_iconst 1 d_Reader_readNumber_103 (by decide) ?_
            refine V_icmp_ne 127 tc_0 tc_1 d_Reader_readNumber_104 (by decide) (fun c46 => ?_) (fun c46 => ?_)
            ·
              refine V_iconst 0 d_Reader_readNumber_127 (by decide) ?_
              refine V_istore 5 [some (.ref 88), some (.int 0), some (.int 0), some (.int o11), some (.int 0), some (.int 0)] d_Reader_readNumber_128 (by decide) rfl rfl ?_
              refine V_iload d_Reader_readNumber_130 rfl ?_
              refine V_if_ne 140 tc_0 d_Reader_readNumber_132 (by decide) (fun c47 => ?_) (fun c47 => ?_)
              ·
                exact absurd c47 (by decide)
              ·
                refine V_iload d_Reader_readNumber_135 rfl ?_
                refine V_if_eq 155 tc_0 d_Reader_readNumber_137 (by decide) (fun c48 => ?_) (fun c48 => ?_)
                ·
                  refine V_iconst 1 d_Reader_readNumber_155 (by decide) ?_
                  refine V_goto 160 d_Reader_readNumber_156 (by decide) ?_
                  exact V_zret rfl (by decide) d_Reader_readNumber_160 ⟨1, rfl, ⟨hI39, f40, o8, o8Z, o8E, (kn_ne eh38 (kn_call fh15 o8K rfl) (by decide)), o9, o9Z, o9E, (kn_ne eh38 (kn_call fh15 o9K rfl) (by decide)), o10, o10Z, o10E, (kn_ne eh38 (kn_call fh15 o10K rfl) (by decide)), o11, o11Z, o11E, (kn_ne eh38 (kn_call fh15 o11K rfl) (by decide)), o19, o19Z, o19E, (kn_ne eh38 o19K (by decide)), o20, o20Z, o20E, (kn_ne eh38 o20K (by decide)), o11, o11Z, o11E, (kn_put eh38), (by have s1 := num_0 (lo := 2) (hi := 4) p5.2.2.1 p5.2.2.2.2.1 ⟨by (first | decide +kernel | omega), by (first | decide +kernel | omega)⟩; exact Or.inl ⟨rfl, by (first | decide +kernel | omega), by (first | decide +kernel | omega), by (first | decide +kernel | omega), by (first | decide +kernel | omega), by (first | decide +kernel | omega), by (first | decide +kernel | omega), by (first | decide +kernel | omega)⟩)⟩⟩
                ·
                  exact absurd c48 (by decide)
            ·
              exact absurd c46 (by decide)
          ·
            refine V_aload_n 0 d_Reader_readNumber_82 rfl rfl ?_
            refine V_getR fa_Reader_29 sk_88 rfl d_Reader_readNumber_83 ?_
            refine V_iload_n 1 d_Reader_readNumber_86 rfl rfl ?_
            refine N_iald sk_92 tc_0 (by (first | decide +kernel | omega)) d_Reader_readNumber_87 (fun z49 z49Z z49E z49e => ?_)
            refine V_iload_n 3 d_Reader_readNumber_88 rfl rfl ?_
            refine N_ishr d_Reader_readNumber_89 (fun z50 z50Z z50E z50e => ?_)
            refine V_iconst 1 d_Reader_readNumber_90 (by decide) ?_
            refine N_iand d_Reader_readNumber_91 (fun z51 z51Z z51E z51e => ?_)
            refine V_if_eq 99 z51E d_Reader_readNumber_92 (by decide) (fun c52 => ?_) (fun c52 => ?_)
            ·
              refine V_iconst 0 d_Reader_readNumber_99 (by decide) ?_
              refine V_istore 4 [some (.ref 88), some (.int 0), some (.int 0), some (.int o11), some (.int 0), none] d_Reader_readNumber_100 (by decide) rfl rfl ?_
              refine V_iload_n 2 d_Reader_readNumber_102 rfl rfl ?_
              refine V_iconst 1 d_Reader_readNumber_103 (by decide) ?_
              refine V_icmp_ne 127 tc_0 tc_1 d_Reader_readNumber_104 (by decide) (fun c53 => ?_) (fun c53 => ?_)
              ·
                refine V_iconst 0 d_Reader_readNumber_127 (by decide) ?_
                refine V_istore 5 [some (.ref 88), some (.int 0), some (.int 0), some (.int o11), some (.int 0), some (.int 0)] d_Reader_readNumber_128 (by decide) rfl rfl ?_
                refine V_iload d_Reader_readNumber_130 rfl ?_
                refine V_if_ne 140 tc_0 d_Reader_readNumber_132 (by decide) (fun c54 => ?_) (fun c54 => ?_)
                ·
                  exact absurd c54 (by decide)
                ·
                  refine V_iload d_Reader_readNumber_135 rfl ?_
                  refine V_if_eq 155 tc_0 d_Reader_readNumber_137 (by decide) (fun c55 => ?_) (fun c55 => ?_)
                  ·
                    refine V_iconst 1 d_Reader_readNumber_155 (by decide) ?_
                    refine V_goto 160 d_Reader_readNumber_156 (by decide) ?_
                    exact V_zret rfl (by decide) d_Reader_readNumber_160 ⟨1, rfl, ⟨hI39, f40, o8, o8Z, o8E, (kn_ne eh38 (kn_call fh15 o8K rfl) (by decide)), o9, o9Z, o9E, (kn_ne eh38 (kn_call fh15 o9K rfl) (by decide)), o10, o10Z, o10E, (kn_ne eh38 (kn_call fh15 o10K rfl) (by decide)), o11, o11Z, o11E, (kn_ne eh38 (kn_call fh15 o11K rfl) (by decide)), o19, o19Z, o19E, (kn_ne eh38 o19K (by decide)), o20, o20Z, o20E, (kn_ne eh38 o20K (by decide)), o11, o11Z, o11E, (kn_put eh38), (by have s1 := num_0 (lo := 2) (hi := 4) p5.2.2.1 p5.2.2.2.2.1 ⟨by (first | decide +kernel | omega), by (first | decide +kernel | omega)⟩; exact Or.inl ⟨rfl, by (first | decide +kernel | omega), by (first | decide +kernel | omega), by (first | decide +kernel | omega), by (first | decide +kernel | omega), by (first | decide +kernel | omega), by (first | decide +kernel | omega), by (first | decide +kernel | omega)⟩)⟩⟩
                  ·
                    exact absurd c55 (by decide)
              ·
                exact absurd c53 (by decide)
            ·
              refine V_iconst 1 d_Reader_readNumber_95 (by decide) ?_
              refine V_goto 100 d_Reader_readNumber_96 (by decide) ?_
              refine V_istore 4 [some (.ref 88), some (.int 0), some (.int 0), some (.int o11), some (.int 1), none] d_Reader_readNumber_100 (by decide) rfl rfl ?_
              refine V_iload_n 2 d_Reader_readNumber_102 rfl rfl ?_
              refine V_iconst 1 d_Reader_readNumber_103 (by decide) ?_
              refine V_icmp_ne 127 tc_0 tc_1 d_Reader_readNumber_104 (by decide) (fun c56 => ?_) (fun c56 => ?_)
              ·
                refine V_iconst 0 d_Reader_readNumber_127 (by decide) ?_
                refine V_istore 5 [some (.ref 88), some (.int 0), some (.int 0), some (.int o11), some (.int 1), some (.int 0)] d_Reader_readNumber_128 (by decide) rfl rfl ?_
                refine V_iload d_Reader_readNumber_130 rfl ?_
                refine V_if_ne 140 tc_1 d_Reader_readNumber_132 (by decide) (fun c57 => ?_) (fun c57 => ?_)
                ·
                  refine V_aload_n 0 d_Reader_readNumber_140 rfl rfl ?_
                  refine V_iconst 4 d_Reader_readNumber_141 (by decide) ?_
                  refine V_aload_n 0 d_Reader_readNumber_142 rfl rfl ?_
                  refine V_getR fa_Reader_12 sk_88 rfl d_Reader_readNumber_143 ?_
                  refine N_getK fa_Reader_81 sk_89 rfl d_Reader_readNumber_146 (kn_ne eh38 (kn_call fh15 o9K rfl) (by decide)) ?_
                  refine N_callVI [.int 4, .int o9] [] cv_Reader_64 sk_88 rfl d_Reader_readNumber_149 rfl (Nat.le_of_ble_eq_true rfl) (by decide) (by decide) (c_Reader_isRefusedX h38 hI39 4 4 tc_4 o9 o9Z o9E) (fun z58 h59 z58Z z58E p60 => ?_)
                  obtain ⟨hI61, fh59, o63, o63Z, o63E, o63K, o64, o64Z, o64E, o64K, p60⟩ := p60
                  have f62 : fr S_Reader_readNumberX_0_0 h h59 := fr_call f40 fh59 rfl
                  refine V_if_eq 159 z58E d_Reader_readNumber_152 (by decide) (fun c65 => ?_) (fun c65 => ?_)
                  ·
                    refine V_iconst 0 d_Reader_readNumber_159 (by decide) ?_
                    exact V_zret rfl (by decide) d_Reader_readNumber_160 ⟨0, rfl, ⟨hI61, f62, o8, o8Z, o8E, (kn_call fh59 (kn_ne eh38 (kn_call fh15 o8K rfl) (by decide)) rfl), o9, o9Z, o9E, (kn_call fh59 (kn_ne eh38 (kn_call fh15 o9K rfl) (by decide)) rfl), o10, o10Z, o10E, (kn_call fh59 (kn_ne eh38 (kn_call fh15 o10K rfl) (by decide)) rfl), o11, o11Z, o11E, (kn_call fh59 (kn_ne eh38 (kn_call fh15 o11K rfl) (by decide)) rfl), o63, o63Z, o63E, o63K, o64, o64Z, o64E, o64K, o11, o11Z, o11E, (kn_call fh59 (kn_put eh38) rfl), (by have s1 := num_0 (lo := 2) (hi := 4) p5.2.2.1 p5.2.2.2.2.1 ⟨by (first | decide +kernel | omega), by (first | decide +kernel | omega)⟩; exact Or.inr ⟨tc_0, ⟨by (first | decide +kernel | omega), by (first | decide +kernel | omega)⟩, by (first | decide +kernel | omega)⟩)⟩⟩
                  ·
                    refine V_iconst 1 d_Reader_readNumber_155 (by decide) ?_
                    refine V_goto 160 d_Reader_readNumber_156 (by decide) ?_
                    exact V_zret rfl (by decide) d_Reader_readNumber_160 ⟨1, rfl, ⟨hI61, f62, o8, o8Z, o8E, (kn_call fh59 (kn_ne eh38 (kn_call fh15 o8K rfl) (by decide)) rfl), o9, o9Z, o9E, (kn_call fh59 (kn_ne eh38 (kn_call fh15 o9K rfl) (by decide)) rfl), o10, o10Z, o10E, (kn_call fh59 (kn_ne eh38 (kn_call fh15 o10K rfl) (by decide)) rfl), o11, o11Z, o11E, (kn_call fh59 (kn_ne eh38 (kn_call fh15 o11K rfl) (by decide)) rfl), o63, o63Z, o63E, o63K, o64, o64Z, o64E, o64K, o11, o11Z, o11E, (kn_call fh59 (kn_put eh38) rfl), (by have s1 := num_0 (lo := 2) (hi := 4) p5.2.2.1 p5.2.2.2.2.1 ⟨by (first | decide +kernel | omega), by (first | decide +kernel | omega)⟩; exact Or.inl ⟨rfl, by (first | decide +kernel | omega), by (first | decide +kernel | omega), by (first | decide +kernel | omega), by (first | decide +kernel | omega), by (first | decide +kernel | omega), by (first | decide +kernel | omega), by (first | decide +kernel | omega)⟩)⟩⟩
                ·
                  exact absurd c57 (by decide)
              ·
                exact absurd c56 (by decide)
      ·
        refine V_aload_n 0 d_Reader_readNumber_51 rfl rfl ?_
        refine V_iconst 3 d_Reader_readNumber_52 (by decide) ?_
        refine V_aload_n 0 d_Reader_readNumber_53 rfl rfl ?_
        refine V_getR fa_Reader_12 sk_88 rfl d_Reader_readNumber_54 ?_
        refine N_getK fa_Reader_81 sk_89 rfl d_Reader_readNumber_57 (kn_call fh15 o9K rfl) ?_
        refine N_callVI [.int 3, .int o9] [] cv_Reader_64 sk_88 rfl d_Reader_readNumber_60 rfl (Nat.le_of_ble_eq_true rfl) (by decide) (by decide) (c_Reader_isRefusedX h15 hI17 3 3 tc_3 o9 o9Z o9E) (fun z66 h67 z66Z z66E p68 => ?_)
        obtain ⟨hI69, fh67, o71, o71Z, o71E, o71K, o72, o72Z, o72E, o72K, p68⟩ := p68
        have f70 : fr S_Reader_readNumberX_0_0 h h67 := fr_call f18 fh67 rfl
        obtain ⟨z73, z73Z, z73E, z73e⟩ : ∃ (y : Int32) (Y : Int), y.toInt = Y ∧ y = h67.1 91 0 := ⟨_, _, rfl, rfl⟩
        exact V_zret rfl (by rw [z66E]; omega) d_Reader_readNumber_63 ⟨z66, rfl, ⟨hI69, f70, o8, o8Z, o8E, (kn_call fh67 (kn_call fh15 o8K rfl) rfl), o9, o9Z, o9E, (kn_call fh67 (kn_call fh15 o9K rfl) rfl), o10, o10Z, o10E, (kn_call fh67 (kn_call fh15 o10K rfl) rfl), o11, o11Z, o11E, (kn_call fh67 (kn_call fh15 o11K rfl) rfl), o71, o71Z, o71E, o71K, o72, o72Z, o72E, o72K, z73, z73Z, z73E, z73e.symm, (by have s1 := num_3 (lo := 2) (hi := 4) p5.2.2.1 p5.2.2.2.2.1 (by (first | decide +kernel | omega)); exact Or.inr ⟨by (first | decide +kernel | omega), ⟨by (first | decide +kernel | omega), by (first | decide +kernel | omega)⟩, by (first | decide +kernel | omega)⟩)⟩⟩
  ·
    have hk9 := num_k 2 4 p5 p16 (by (first | decide +kernel | omega))
    refine V_iconst 0 d_Reader_readNumber_15 (by decide) ?_
    obtain ⟨z74, z74Z, z74E, z74e⟩ : ∃ (y : Int32) (Y : Int), y.toInt = Y ∧ y = h15.1 91 0 := ⟨_, _, rfl, rfl⟩
    exact V_zret rfl (by decide) d_Reader_readNumber_16 ⟨0, rfl, ⟨hI17, f18, o8, o8Z, o8E, (kn_call fh15 o8K rfl), o9, o9Z, o9E, (kn_call fh15 o9K rfl), o10, o10Z, o10E, (kn_call fh15 o10K rfl), o11, o11Z, o11E, (kn_call fh15 o11K rfl), o19, o19Z, o19E, o19K, o20, o20Z, o20E, o20K, z74, z74Z, z74E, z74e.symm, (Or.inr ⟨tc_0, ⟨hk9.1, hk9.2.1⟩, hk9.2.2⟩)⟩⟩
def S_Reader_readNumberX_0_1 : List (Nat × Option Nat) := [(89, some 2), (89, some 3), (89, some 4), (89, some 5), (88, some 5), (88, some 6), (91, some 1)]
abbrev q_Reader_readNumberX_0_1 (h : Hp) (b : Int → Int) (T : Nat → Int → Int) (s : Int32) (sZ : Int) (t : Int32) (tZ : Int) (a : Int32) (aZ : Int) (w : Int32) (wZ : Int) : Option Value → Hp → Prop := pInt (fun r h' => Inv h' ∧ fr S_Reader_readNumberX_0_1 h h' ∧ ∃ (k : Int32) (kZ : Int), k.toInt = kZ ∧ h'.1 89 2 = k ∧ ∃ (f : Int32) (fZ : Int), f.toInt = fZ ∧ h'.1 89 3 = f ∧ ∃ (u : Int32) (uZ : Int), u.toInt = uZ ∧ h'.1 89 4 = u ∧ ∃ (v : Int32) (vZ : Int), v.toInt = vZ ∧ h'.1 89 5 = v ∧ ∃ (e : Int32) (eZ : Int), e.toInt = eZ ∧ h'.1 88 6 = e ∧ ∃ (y : Int32) (yZ : Int), y.toInt = yZ ∧ h'.1 88 5 = y ∧ ∃ (x : Int32) (xZ : Int), x.toInt = xZ ∧ h'.1 91 1 = x ∧ (r.toInt = 1 ∧ x_cN b tZ 2 4 = 0 ∧ uZ = x_en b tZ ∧ xZ = x_vl b tZ ∧ eZ = wZ ∧ yZ = aZ ∧ tZ < uZ ∧ uZ ≤ sZ ∨ r.toInt = 0 ∧ (x_cN b tZ 2 4 ≠ 0 ∧ eZ = x_cN b tZ 2 4) ∧ yZ = x_fr b tZ))
set_option maxRecDepth 100000 in
theorem c_Reader_readNumberX_0_1 (h : Hp) (b : Int → Int) (T : Nat → Int → Int) (hI : Inv h) (s : Int32) (sZ : Int) (sE : s.toInt = sZ) (sK : h.1 89 1 = s) (t : Int32) (tZ : Int) (tE : t.toInt = tZ) (tK : h.1 89 4 = t) (a : Int32) (aZ : Int) (aE : a.toInt = aZ) (aK : h.1 88 5 = a) (w : Int32) (wZ : Int) (wE : w.toInt = wZ) (wK : h.1 88 6 = w) (hy0 : TP h 90 sZ b) (hy1 : 0 ≤ tZ ∧ tZ ≤ sZ) : Ct y_Reader_readNumber b_Reader_readNumber 6 (some .boolean) 3 60 [.ref 88, .int 0, .int 1] h (q_Reader_readNumberX_0_1 h b T s sZ t tZ a aZ w wZ) := by
  refine ct_ow R_Reader [some (.ref 88), some (.int 0), some (.int 1), none, none, none] rfl (by decide) rfl (Nat.le_of_ble_eq_true rfl) ?_
  have f0 : fr S_Reader_readNumberX_0_1 h h := fr_rf
  have g1 : 0 ≤ sZ ∧ sZ ≤ 160 := inv_at hI sE sK.symm rfl
  have g2 : 0 ≤ tZ ∧ tZ ≤ 160 := inv_at hI tE tK.symm rfl
  refine V_aload_n 0 d_Reader_readNumber_0 rfl rfl ?_
  refine V_getR fa_Reader_12 sk_88 rfl d_Reader_readNumber_1 ?_
  refine N_callVV [] [] cv_Reader_48 sk_89 rfl d_Reader_readNumber_4 rfl (Nat.le_of_ble_eq_true rfl) (by decide) (by decide) (c_Tape_advanceX h b hI s sZ sE sK t tZ tE tK (TP_fr f0 (fun _ => rfl) hy0) (by (first | decide +kernel | omega))) (fun h4 p5 => ?_)
  obtain ⟨hI6, fh4, o8, o8Z, o8E, o8K, o9, o9Z, o9E, o9K, o10, o10Z, o10E, o10K, o11, o11Z, o11E, o11K, p5⟩ := p5
  have f7 : fr S_Reader_readNumberX_0_1 h h4 := fr_call f0 fh4 rfl
  have g12 : 0 ≤ o9Z ∧ o9Z ≤ 160 := inv_at hI6 o9E o9K.symm rfl
  have g13 : 0 ≤ o10Z ∧ o10Z ≤ 160 := inv_at hI6 o10E o10K.symm rfl
  refine V_aload_n 0 d_Reader_readNumber_7 rfl rfl ?_
  refine V_iconst 2 d_Reader_readNumber_8 (by decide) ?_
  refine N_callVI [.int 2] [] cv_Reader_84 sk_88 rfl d_Reader_readNumber_9 rfl (Nat.le_of_ble_eq_true rfl) (by decide) (by decide) (c_Reader_isKindX h4 hI6 2 2 tc_2 o8 o8Z o8E o8K o9 o9Z o9E o9K a aZ aE (kn_call fh4 aK rfl) w wZ wE (kn_call fh4 wK rfl)) (fun z14 h15 z14Z z14E p16 => ?_)
  obtain ⟨hI17, fh15, o19, o19Z, o19E, o19K, o20, o20Z, o20E, o20K, p16⟩ := p16
  have f18 : fr S_Reader_readNumberX_0_1 h h15 := fr_call f7 fh15 rfl
  refine V_if_ne 17 z14E d_Reader_readNumber_12 (by decide) (fun c21 => ?_) (fun c21 => ?_)
  ·
    replace p16 := kd_y p16 (by (first | decide +kernel | omega))
    replace p5 := adv_2 p5 (by (first | decide +kernel | omega))
    refine V_aload_n 0 d_Reader_readNumber_17 rfl rfl ?_
    refine V_getR fa_Reader_12 sk_88 rfl d_Reader_readNumber_18 ?_
    refine N_getK fa_Reader_122 sk_89 rfl d_Reader_readNumber_21 (kn_call fh15 o11K rfl) ?_
    refine V_istore_n 3 [some (.ref 88), some (.int 0), some (.int 1), some (.int o11), none, none] d_Reader_readNumber_24 rfl (by decide) rfl rfl ?_
    refine V_iload_n 3 d_Reader_readNumber_25 rfl rfl ?_
    refine V_gets (v := .ref 133) zL ws_Reader_125 d_Reader_readNumber_26 ?_
    refine V_iconst 3 d_Reader_readNumber_29 (by decide) ?_
    refine V_iload_n 1 d_Reader_readNumber_30 rfl rfl ?_
    refine V_imulw d_Reader_readNumber_31 (fun z22 z22e => ?_)
    obtain rfl : z22 = 0 := z22e.trans (by decide)
    refine V_iload_n 2 d_Reader_readNumber_32 rfl rfl ?_
    refine V_iaddw d_Reader_readNumber_33 (fun z23 z23e => ?_)
    obtain rfl : z23 = 1 := z23e.trans (by decide)
    refine V_tald roL tc_1 (by decide) d_Reader_readNumber_34 (fun z24 z24Z z24E z24e => ?_)
    obtain rfl : z24 = 2 := z24e.trans rfl
    refine V_icmp_lt 51 o11E tc_2 d_Reader_readNumber_35 (by decide) (fun c25 => ?_) (fun c25 => ?_)
    ·
      refine V_aload_n 0 d_Reader_readNumber_51 rfl rfl ?_
      refine V_iconst 3 d_Reader_readNumber_52 (by decide) ?_
      refine V_aload_n 0 d_Reader_readNumber_53 rfl rfl ?_
      refine V_getR fa_Reader_12 sk_88 rfl d_Reader_readNumber_54 ?_
      refine N_getK fa_Reader_81 sk_89 rfl d_Reader_readNumber_57 (kn_call fh15 o9K rfl) ?_
      refine N_callVI [.int 3, .int o9] [] cv_Reader_64 sk_88 rfl d_Reader_readNumber_60 rfl (Nat.le_of_ble_eq_true rfl) (by decide) (by decide) (c_Reader_isRefusedX h15 hI17 3 3 tc_3 o9 o9Z o9E) (fun z26 h27 z26Z z26E p28 => ?_)
      obtain ⟨hI29, fh27, o31, o31Z, o31E, o31K, o32, o32Z, o32E, o32K, p28⟩ := p28
      have f30 : fr S_Reader_readNumberX_0_1 h h27 := fr_call f18 fh27 rfl
      obtain ⟨z33, z33Z, z33E, z33e⟩ : ∃ (y : Int32) (Y : Int), y.toInt = Y ∧ y = h27.1 91 1 := ⟨_, _, rfl, rfl⟩
      exact V_zret rfl (by rw [z26E]; omega) d_Reader_readNumber_63 ⟨z26, rfl, ⟨hI29, f30, o8, o8Z, o8E, (kn_call fh27 (kn_call fh15 o8K rfl) rfl), o9, o9Z, o9E, (kn_call fh27 (kn_call fh15 o9K rfl) rfl), o10, o10Z, o10E, (kn_call fh27 (kn_call fh15 o10K rfl) rfl), o11, o11Z, o11E, (kn_call fh27 (kn_call fh15 o11K rfl) rfl), o31, o31Z, o31E, o31K, o32, o32Z, o32E, o32K, z33, z33Z, z33E, z33e.symm, (by have s1 := num_3 (lo := 2) (hi := 4) p5.2.2.1 p5.2.2.2.2.1 (by (first | decide +kernel | omega)); exact Or.inr ⟨by (first | decide +kernel | omega), ⟨by (first | decide +kernel | omega), by (first | decide +kernel | omega)⟩, by (first | decide +kernel | omega)⟩)⟩⟩
    ·
      refine V_iload_n 3 d_Reader_readNumber_38 rfl rfl ?_
      refine V_gets (v := .ref 134) zM ws_Reader_128 d_Reader_readNumber_39 ?_
      refine V_iconst 3 d_Reader_readNumber_42 (by decide) ?_
      refine V_iload_n 1 d_Reader_readNumber_43 rfl rfl ?_
      refine V_imulw d_Reader_readNumber_44 (fun z34 z34e => ?_)
      obtain rfl : z34 = 0 := z34e.trans (by decide)
      refine V_iload_n 2 d_Reader_readNumber_45 rfl rfl ?_
      refine V_iaddw d_Reader_readNumber_46 (fun z35 z35e => ?_)
      obtain rfl : z35 = 1 := z35e.trans (by decide)
      refine V_tald roM tc_1 (by decide) d_Reader_readNumber_47 (fun z36 z36Z z36E z36e => ?_)
      obtain rfl : z36 = 4 := z36e.trans rfl
      refine V_icmp_le 64 o11E tc_4 d_Reader_readNumber_48 (by decide) (fun c37 => ?_) (fun c37 => ?_)
      ·
        refine V_aload_n 0 d_Reader_readNumber_64 rfl rfl ?_
        refine V_getR fa_Reader_25 sk_88 rfl d_Reader_readNumber_65 ?_
        refine V_iload_n 2 d_Reader_readNumber_68 rfl rfl ?_
        refine V_iload_n 3 d_Reader_readNumber_69 rfl rfl ?_
        refine N_iast sk_91 tc_1 (by (first | decide +kernel | omega)) d_Reader_readNumber_70 (fun h38 eh38 => ?_)
        have hI39 : Inv h38 := inv_full hI17 eh38 rfl
        have f40 : fr S_Reader_readNumberX_0_1 h h38 := fr_put f18 eh38 rfl
        refine V_iload_n 2 d_Reader_readNumber_71 rfl rfl ?_
        refine V_if_ne 99 tc_1 d_Reader_readNumber_72 (by decide) (fun c41 => ?_) (fun c41 => ?_)
        ·
          refine V_iconst 0 d_Reader_readNumber_99 (by decide) ?_
          refine V_istore 4 [some (.ref 88), some (.int 0), some (.int 1), some (.int o11), some (.int 0), none] d_Reader_readNumber_100 (by decide) rfl rfl ?_
          refine V_iload_n 2 d_Reader_readNumber_102 rfl rfl ?_
          refine V_iconst 1 d_Reader_readNumber_103 (by decide) ?_
          refine V_icmp_ne 127 tc_1 tc_1 d_Reader_readNumber_104 (by decide) (fun c42 => ?_) (fun c42 => ?_)
          ·
            exact absurd c42 (by decide)
          ·
            refine V_iload_n 1 d_Reader_readNumber_107 rfl rfl ?_
            refine V_bipush 9 d_Reader_readNumber_108 (by decide) ?_
            refine V_icmp_ne 127 tc_0 tc_9 d_Reader_readNumber_110 (by decide) (fun c43 => ?_) (fun c43 => ?_)
            ·
              refine V_iconst 0 d_Reader_readNumber_127 (by decide) ?_
              refine V_istore 5 [some (.ref 88), some (.int 0), some (.int 1), some (.int o11), some (.int 0), some (.int 0)] d_Reader_readNumber_128 (by decide) rfl rfl ?_
              refine V_iload d_Reader_readNumber_130 rfl ?_
              refine V_if_ne 140 tc_0 d_Reader_readNumber_132 (by decide) (fun c44 => ?_) (fun c44 => ?_)
              ·
                exact absurd c44 (by decide)
              ·
                refine V_iload d_Reader_readNumber_135 rfl ?_
                refine V_if_eq 155 tc_0 d_Reader_readNumber_137 (by decide) (fun c45 => ?_) (fun c45 => ?_)
                ·
                  refine V_iconst 1 d_Reader_readNumber_155 (by decide) ?_
                  refine V_goto 160 d_Reader_readNumber_156 (by decide) ?_
                  exact V_zret rfl (by decide) d_Reader_readNumber_160 ⟨1, rfl, ⟨hI39, f40, o8, o8Z, o8E, (kn_ne eh38 (kn_call fh15 o8K rfl) (by decide)), o9, o9Z, o9E, (kn_ne eh38 (kn_call fh15 o9K rfl) (by decide)), o10, o10Z, o10E, (kn_ne eh38 (kn_call fh15 o10K rfl) (by decide)), o11, o11Z, o11E, (kn_ne eh38 (kn_call fh15 o11K rfl) (by decide)), o19, o19Z, o19E, (kn_ne eh38 o19K (by decide)), o20, o20Z, o20E, (kn_ne eh38 o20K (by decide)), o11, o11Z, o11E, (kn_put eh38), (by have s1 := num_0 (lo := 2) (hi := 4) p5.2.2.1 p5.2.2.2.2.1 ⟨by (first | decide +kernel | omega), by (first | decide +kernel | omega)⟩; exact Or.inl ⟨rfl, by (first | decide +kernel | omega), by (first | decide +kernel | omega), by (first | decide +kernel | omega), by (first | decide +kernel | omega), by (first | decide +kernel | omega), by (first | decide +kernel | omega), by (first | decide +kernel | omega)⟩)⟩⟩
                ·
                  exact absurd c45 (by decide)
            ·
              exact absurd c43 (by decide)
        ·
          exact absurd c41 (by decide)
      ·
        refine V_aload_n 0 d_Reader_readNumber_51 rfl rfl ?_
        refine V_iconst 3 d_Reader_readNumber_52 (by decide) ?_
        refine V_aload_n 0 d_Reader_readNumber_53 rfl rfl ?_
        refine V_getR fa_Reader_12 sk_88 rfl d_Reader_readNumber_54 ?_
        refine N_getK fa_Reader_81 sk_89 rfl d_Reader_readNumber_57 (kn_call fh15 o9K rfl) ?_
        refine N_callVI [.int 3, .int o9] [] cv_Reader_64 sk_88 rfl d_Reader_readNumber_60 rfl (Nat.le_of_ble_eq_true rfl) (by decide) (by decide) (c_Reader_isRefusedX h15 hI17 3 3 tc_3 o9 o9Z o9E) (fun z46 h47 z46Z z46E p48 => ?_)
        obtain ⟨hI49, fh47, o51, o51Z, o51E, o51K, o52, o52Z, o52E, o52K, p48⟩ := p48
        have f50 : fr S_Reader_readNumberX_0_1 h h47 := fr_call f18 fh47 rfl
        obtain ⟨z53, z53Z, z53E, z53e⟩ : ∃ (y : Int32) (Y : Int), y.toInt = Y ∧ y = h47.1 91 1 := ⟨_, _, rfl, rfl⟩
        exact V_zret rfl (by rw [z46E]; omega) d_Reader_readNumber_63 ⟨z46, rfl, ⟨hI49, f50, o8, o8Z, o8E, (kn_call fh47 (kn_call fh15 o8K rfl) rfl), o9, o9Z, o9E, (kn_call fh47 (kn_call fh15 o9K rfl) rfl), o10, o10Z, o10E, (kn_call fh47 (kn_call fh15 o10K rfl) rfl), o11, o11Z, o11E, (kn_call fh47 (kn_call fh15 o11K rfl) rfl), o51, o51Z, o51E, o51K, o52, o52Z, o52E, o52K, z53, z53Z, z53E, z53e.symm, (by have s1 := num_3 (lo := 2) (hi := 4) p5.2.2.1 p5.2.2.2.2.1 (by (first | decide +kernel | omega)); exact Or.inr ⟨by (first | decide +kernel | omega), ⟨by (first | decide +kernel | omega), by (first | decide +kernel | omega)⟩, by (first | decide +kernel | omega)⟩)⟩⟩
  ·
    have hk9 := num_k 2 4 p5 p16 (by (first | decide +kernel | omega))
    refine V_iconst 0 d_Reader_readNumber_15 (by decide) ?_
    obtain ⟨z54, z54Z, z54E, z54e⟩ : ∃ (y : Int32) (Y : Int), y.toInt = Y ∧ y = h15.1 91 1 := ⟨_, _, rfl, rfl⟩
    exact V_zret rfl (by decide) d_Reader_readNumber_16 ⟨0, rfl, ⟨hI17, f18, o8, o8Z, o8E, (kn_call fh15 o8K rfl), o9, o9Z, o9E, (kn_call fh15 o9K rfl), o10, o10Z, o10E, (kn_call fh15 o10K rfl), o11, o11Z, o11E, (kn_call fh15 o11K rfl), o19, o19Z, o19E, o19K, o20, o20Z, o20E, o20K, z54, z54Z, z54E, z54e.symm, (Or.inr ⟨tc_0, ⟨hk9.1, hk9.2.1⟩, hk9.2.2⟩)⟩⟩
def S_Reader_readNumberX_1_0 : List (Nat × Option Nat) := [(89, some 2), (89, some 3), (89, some 4), (89, some 5), (88, some 5), (88, some 6), (91, some 0)]
abbrev q_Reader_readNumberX_1_0 (h : Hp) (b : Int → Int) (T : Nat → Int → Int) (s : Int32) (sZ : Int) (t : Int32) (tZ : Int) (a : Int32) (aZ : Int) (w : Int32) (wZ : Int) (z : Int32) (zZ : Int) : Option Value → Hp → Prop := pInt (fun r h' => Inv h' ∧ fr S_Reader_readNumberX_1_0 h h' ∧ ∃ (k : Int32) (kZ : Int), k.toInt = kZ ∧ h'.1 89 2 = k ∧ ∃ (f : Int32) (fZ : Int), f.toInt = fZ ∧ h'.1 89 3 = f ∧ ∃ (u : Int32) (uZ : Int), u.toInt = uZ ∧ h'.1 89 4 = u ∧ ∃ (v : Int32) (vZ : Int), v.toInt = vZ ∧ h'.1 89 5 = v ∧ ∃ (e : Int32) (eZ : Int), e.toInt = eZ ∧ h'.1 88 6 = e ∧ ∃ (y : Int32) (yZ : Int), y.toInt = yZ ∧ h'.1 88 5 = y ∧ ∃ (x : Int32) (xZ : Int), x.toInt = xZ ∧ h'.1 91 0 = x ∧ (r.toInt = 1 ∧ x_cN b tZ 0 15 = 0 ∧ x_c4 (T 1 (x_vl b tZ)) = 0 ∧ uZ = x_en b tZ ∧ xZ = x_vl b tZ ∧ eZ = wZ ∧ yZ = aZ ∧ tZ < uZ ∧ uZ ≤ sZ ∨ r.toInt = 0 ∧ (x_cN b tZ 0 15 ≠ 0 ∧ eZ = x_cN b tZ 0 15 ∨ x_cN b tZ 0 15 = 0 ∧ x_c4 (T 1 (x_vl b tZ)) ≠ 0 ∧ eZ = x_c4 (T 1 (x_vl b tZ))) ∧ yZ = x_fr b tZ))
set_option maxRecDepth 100000 in
theorem c_Reader_readNumberX_1_0 (h : Hp) (b : Int → Int) (T : Nat → Int → Int) (hI : Inv h) (s : Int32) (sZ : Int) (sE : s.toInt = sZ) (sK : h.1 89 1 = s) (t : Int32) (tZ : Int) (tE : t.toInt = tZ) (tK : h.1 89 4 = t) (a : Int32) (aZ : Int) (aE : a.toInt = aZ) (aK : h.1 88 5 = a) (w : Int32) (wZ : Int) (wE : w.toInt = wZ) (wK : h.1 88 6 = w) (z : Int32) (zZ : Int) (zE : z.toInt = zZ) (zK : h.1 92 1 = z) (hy0 : TP h 90 sZ b) (hy1 : 0 ≤ tZ ∧ tZ ≤ sZ) (hy2 : x_TB z (T 1)) : Ct y_Reader_readNumber b_Reader_readNumber 6 (some .boolean) 3 60 [.ref 88, .int 1, .int 0] h (q_Reader_readNumberX_1_0 h b T s sZ t tZ a aZ w wZ z zZ) := by
  refine ct_ow R_Reader [some (.ref 88), some (.int 1), some (.int 0), none, none, none] rfl (by decide) rfl (Nat.le_of_ble_eq_true rfl) ?_
  have f0 : fr S_Reader_readNumberX_1_0 h h := fr_rf
  have g1 : 0 ≤ sZ ∧ sZ ≤ 160 := inv_at hI sE sK.symm rfl
  have g2 : 0 ≤ tZ ∧ tZ ≤ 160 := inv_at hI tE tK.symm rfl
  refine V_aload_n 0 d_Reader_readNumber_0 rfl rfl ?_
  refine V_getR fa_Reader_12 sk_88 rfl d_Reader_readNumber_1 ?_
  refine N_callVV [] [] cv_Reader_48 sk_89 rfl d_Reader_readNumber_4 rfl (Nat.le_of_ble_eq_true rfl) (by decide) (by decide) (c_Tape_advanceX h b hI s sZ sE sK t tZ tE tK (TP_fr f0 (fun _ => rfl) hy0) (by (first | decide +kernel | omega))) (fun h4 p5 => ?_)
  obtain ⟨hI6, fh4, o8, o8Z, o8E, o8K, o9, o9Z, o9E, o9K, o10, o10Z, o10E, o10K, o11, o11Z, o11E, o11K, p5⟩ := p5
  have f7 : fr S_Reader_readNumberX_1_0 h h4 := fr_call f0 fh4 rfl
  have g12 : 0 ≤ o9Z ∧ o9Z ≤ 160 := inv_at hI6 o9E o9K.symm rfl
  have g13 : 0 ≤ o10Z ∧ o10Z ≤ 160 := inv_at hI6 o10E o10K.symm rfl
  refine V_aload_n 0 d_Reader_readNumber_7 rfl rfl ?_
  refine V_iconst 2 d_Reader_readNumber_8 (by decide) ?_
  refine N_callVI [.int 2] [] cv_Reader_84 sk_88 rfl d_Reader_readNumber_9 rfl (Nat.le_of_ble_eq_true rfl) (by decide) (by decide) (c_Reader_isKindX h4 hI6 2 2 tc_2 o8 o8Z o8E o8K o9 o9Z o9E o9K a aZ aE (kn_call fh4 aK rfl) w wZ wE (kn_call fh4 wK rfl)) (fun z14 h15 z14Z z14E p16 => ?_)
  obtain ⟨hI17, fh15, o19, o19Z, o19E, o19K, o20, o20Z, o20E, o20K, p16⟩ := p16
  have f18 : fr S_Reader_readNumberX_1_0 h h15 := fr_call f7 fh15 rfl
  refine V_if_ne 17 z14E d_Reader_readNumber_12 (by decide) (fun c21 => ?_) (fun c21 => ?_)
  ·
    replace p16 := kd_y p16 (by (first | decide +kernel | omega))
    replace p5 := adv_2 p5 (by (first | decide +kernel | omega))
    refine V_aload_n 0 d_Reader_readNumber_17 rfl rfl ?_
    refine V_getR fa_Reader_12 sk_88 rfl d_Reader_readNumber_18 ?_
    refine N_getK fa_Reader_122 sk_89 rfl d_Reader_readNumber_21 (kn_call fh15 o11K rfl) ?_
    refine V_istore_n 3 [some (.ref 88), some (.int 1), some (.int 0), some (.int o11), none, none] d_Reader_readNumber_24 rfl (by decide) rfl rfl ?_
    refine V_iload_n 3 d_Reader_readNumber_25 rfl rfl ?_
    refine V_gets (v := .ref 133) zL ws_Reader_125 d_Reader_readNumber_26 ?_
    refine V_iconst 3 d_Reader_readNumber_29 (by decide) ?_
    refine V_iload_n 1 d_Reader_readNumber_30 rfl rfl ?_
    refine V_imulw d_Reader_readNumber_31 (fun z22 z22e => ?_)
    obtain rfl : z22 = 3 := z22e.trans (by decide)
    refine V_iload_n 2 d_Reader_readNumber_32 rfl rfl ?_
    refine V_iaddw d_Reader_readNumber_33 (fun z23 z23e => ?_)
    obtain rfl : z23 = 3 := z23e.trans (by decide)
    refine V_tald roL tc_3 (by decide) d_Reader_readNumber_34 (fun z24 z24Z z24E z24e => ?_)
    obtain rfl : z24 = 0 := z24e.trans rfl
    refine V_icmp_lt 51 o11E tc_0 d_Reader_readNumber_35 (by decide) (fun c25 => ?_) (fun c25 => ?_)
    ·
      refine V_aload_n 0 d_Reader_readNumber_51 rfl rfl ?_
      refine V_iconst 3 d_Reader_readNumber_52 (by decide) ?_
      refine V_aload_n 0 d_Reader_readNumber_53 rfl rfl ?_
      refine V_getR fa_Reader_12 sk_88 rfl d_Reader_readNumber_54 ?_
      refine N_getK fa_Reader_81 sk_89 rfl d_Reader_readNumber_57 (kn_call fh15 o9K rfl) ?_
      refine N_callVI [.int 3, .int o9] [] cv_Reader_64 sk_88 rfl d_Reader_readNumber_60 rfl (Nat.le_of_ble_eq_true rfl) (by decide) (by decide) (c_Reader_isRefusedX h15 hI17 3 3 tc_3 o9 o9Z o9E) (fun z26 h27 z26Z z26E p28 => ?_)
      obtain ⟨hI29, fh27, o31, o31Z, o31E, o31K, o32, o32Z, o32E, o32K, p28⟩ := p28
      have f30 : fr S_Reader_readNumberX_1_0 h h27 := fr_call f18 fh27 rfl
      obtain ⟨z33, z33Z, z33E, z33e⟩ : ∃ (y : Int32) (Y : Int), y.toInt = Y ∧ y = h27.1 91 0 := ⟨_, _, rfl, rfl⟩
      exact V_zret rfl (by rw [z26E]; omega) d_Reader_readNumber_63 ⟨z26, rfl, ⟨hI29, f30, o8, o8Z, o8E, (kn_call fh27 (kn_call fh15 o8K rfl) rfl), o9, o9Z, o9E, (kn_call fh27 (kn_call fh15 o9K rfl) rfl), o10, o10Z, o10E, (kn_call fh27 (kn_call fh15 o10K rfl) rfl), o11, o11Z, o11E, (kn_call fh27 (kn_call fh15 o11K rfl) rfl), o31, o31Z, o31E, o31K, o32, o32Z, o32E, o32K, z33, z33Z, z33E, z33e.symm, (by have s1 := num_3 (lo := 0) (hi := 15) p5.2.2.1 p5.2.2.2.2.1 (by (first | decide +kernel | omega)); exact Or.inr ⟨by (first | decide +kernel | omega), Or.inl ⟨by (first | decide +kernel | omega), by (first | decide +kernel | omega)⟩, by (first | decide +kernel | omega)⟩)⟩⟩
    ·
      refine V_iload_n 3 d_Reader_readNumber_38 rfl rfl ?_
      refine V_gets (v := .ref 134) zM ws_Reader_128 d_Reader_readNumber_39 ?_
      refine V_iconst 3 d_Reader_readNumber_42 (by decide) ?_
      refine V_iload_n 1 d_Reader_readNumber_43 rfl rfl ?_
      refine V_imulw d_Reader_readNumber_44 (fun z34 z34e => ?_)
      obtain rfl : z34 = 3 := z34e.trans (by decide)
      refine V_iload_n 2 d_Reader_readNumber_45 rfl rfl ?_
      refine V_iaddw d_Reader_readNumber_46 (fun z35 z35e => ?_)
      obtain rfl : z35 = 3 := z35e.trans (by decide)
      refine V_tald roM tc_3 (by decide) d_Reader_readNumber_47 (fun z36 z36Z z36E z36e => ?_)
      obtain rfl : z36 = 15 := z36e.trans rfl
      refine V_icmp_le 64 o11E tc_15 d_Reader_readNumber_48 (by decide) (fun c37 => ?_) (fun c37 => ?_)
      ·
        refine V_aload_n 0 d_Reader_readNumber_64 rfl rfl ?_
        refine V_getR fa_Reader_25 sk_88 rfl d_Reader_readNumber_65 ?_
        refine V_iload_n 2 d_Reader_readNumber_68 rfl rfl ?_
        refine V_iload_n 3 d_Reader_readNumber_69 rfl rfl ?_
        refine N_iast sk_91 tc_0 (by (first | decide +kernel | omega)) d_Reader_readNumber_70 (fun h38 eh38 => ?_)
        have hI39 : Inv h38 := inv_full hI17 eh38 rfl
        have f40 : fr S_Reader_readNumberX_1_0 h h38 := fr_put f18 eh38 rfl
        refine V_iload_n 2 d_Reader_readNumber_71 rfl rfl ?_
        refine V_if_ne 99 tc_0 d_Reader_readNumber_72 (by decide) (fun c41 => ?_) (fun c41 => ?_)
        ·
          exact absurd c41 (by decide)
        ·
          refine V_iload_n 1 d_Reader_readNumber_75 rfl rfl ?_
          refine N_callSI [.int 1] [] cs_Reader_131 d_Reader_readNumber_76 rfl (Nat.le_of_ble_eq_true rfl) (by decide) (by decide) (c_Reader_isOfOneX_1 h38) (fun z42 h43 z42Z z42E p44 => ?_)
          obtain ⟨eh43, p44⟩ := p44
          subst eh43
          refine V_if_eq 99 z42E d_Reader_readNumber_79 (by decide) (fun c45 => ?_) (fun c45 => ?_)
          ·
            refine V_iconst 0 d_Reader_readNumber_99 (by decide) ?_
            refine V_istore 4 [some (.ref 88), some (.int 1), some (.int 0), some (.int o11), some (.int 0), none] d_Reader_readNumber_100 (by decide) rfl rfl ?_
            refine V_iload_n 2 d_Reader_readNumber_102 rfl rfl ?_
            refine V_iconst 1 d_Reader_readNumber_103 (by decide) ?_
            refine V_icmp_ne 127 tc_0 tc_1 d_Reader_readNumber_104 (by decide) (fun c46 => ?_) (fun c46 => ?_)
            ·
              refine V_iconst 0 d_Reader_readNumber_127 (by decide) ?_
              refine V_istore 5 [some (.ref 88), some (.int 1), some (.int 0), some (.int o11), some (.int 0), some (.int 0)] d_Reader_readNumber_128 (by decide) rfl rfl ?_
              refine V_iload d_Reader_readNumber_130 rfl ?_
              refine V_if_ne 140 tc_0 d_Reader_readNumber_132 (by decide) (fun c47 => ?_) (fun c47 => ?_)
              ·
                exact absurd c47 (by decide)
              ·
                refine V_iload d_Reader_readNumber_135 rfl ?_
                refine V_if_eq 155 tc_0 d_Reader_readNumber_137 (by decide) (fun c48 => ?_) (fun c48 => ?_)
                ·
                  refine V_iconst 1 d_Reader_readNumber_155 (by decide) ?_
                  refine V_goto 160 d_Reader_readNumber_156 (by decide) ?_
                  exact V_zret rfl (by decide) d_Reader_readNumber_160 ⟨1, rfl, ⟨hI39, f40, o8, o8Z, o8E, (kn_ne eh38 (kn_call fh15 o8K rfl) (by decide)), o9, o9Z, o9E, (kn_ne eh38 (kn_call fh15 o9K rfl) (by decide)), o10, o10Z, o10E, (kn_ne eh38 (kn_call fh15 o10K rfl) (by decide)), o11, o11Z, o11E, (kn_ne eh38 (kn_call fh15 o11K rfl) (by decide)), o19, o19Z, o19E, (kn_ne eh38 o19K (by decide)), o20, o20Z, o20E, (kn_ne eh38 o20K (by decide)), o11, o11Z, o11E, (kn_put eh38), (by have s1 := num_0 (lo := 0) (hi := 15) p5.2.2.1 p5.2.2.2.2.1 ⟨by (first | decide +kernel | omega), by (first | decide +kernel | omega)⟩; have s2 := x_c4_s (T 1 (x_vl b tZ)); exact Or.inl ⟨rfl, by (first | decide +kernel | omega), by (first | decide +kernel | omega), by (first | decide +kernel | omega), by (first | decide +kernel | omega), by (first | decide +kernel | omega), by (first | decide +kernel | omega), by (first | decide +kernel | omega), by (first | decide +kernel | omega)⟩)⟩⟩
                ·
                  exact absurd c48 (by decide)
            ·
              exact absurd c46 (by decide)
          ·
            refine V_aload_n 0 d_Reader_readNumber_82 rfl rfl ?_
            refine V_getR fa_Reader_29 sk_88 rfl d_Reader_readNumber_83 ?_
            refine V_iload_n 1 d_Reader_readNumber_86 rfl rfl ?_
            refine N_ialdK sk_92 tc_1 (by (first | decide +kernel | omega)) d_Reader_readNumber_87 (kn_ne eh38 (kn_call fh15 (kn_call fh4 zK rfl) rfl) (by decide)) ?_
            refine V_iload_n 3 d_Reader_readNumber_88 rfl rfl ?_
            refine N_ishr d_Reader_readNumber_89 (fun z50 z50Z z50E z50e => ?_)
            refine V_iconst 1 d_Reader_readNumber_90 (by decide) ?_
            refine N_iand d_Reader_readNumber_91 (fun z51 z51Z z51E z51e => ?_)
            have g52 : z51Z = T 1 o11Z := x_bt_of hy2 (by (first | decide +kernel | omega)) (by (first | decide +kernel | omega)) o11E z51E (by assumption) (by assumption)
            have g53 : T 1 o11Z = T 1 (x_vl b tZ) := congrArg (T 1) (by (first | decide +kernel | omega))
            refine V_if_eq 99 z51E d_Reader_readNumber_92 (by decide) (fun c54 => ?_) (fun c54 => ?_)
            ·
              refine V_iconst 0 d_Reader_readNumber_99 (by decide) ?_
              refine V_istore 4 [some (.ref 88), some (.int 1), some (.int 0), some (.int o11), some (.int 0), none] d_Reader_readNumber_100 (by decide) rfl rfl ?_
              refine V_iload_n 2 d_Reader_readNumber_102 rfl rfl ?_
              refine V_iconst 1 d_Reader_readNumber_103 (by decide) ?_
              refine V_icmp_ne 127 tc_0 tc_1 d_Reader_readNumber_104 (by decide) (fun c55 => ?_) (fun c55 => ?_)
              ·
                refine V_iconst 0 d_Reader_readNumber_127 (by decide) ?_
                refine V_istore 5 [some (.ref 88), some (.int 1), some (.int 0), some (.int o11), some (.int 0), some (.int 0)] d_Reader_readNumber_128 (by decide) rfl rfl ?_
                refine V_iload d_Reader_readNumber_130 rfl ?_
                refine V_if_ne 140 tc_0 d_Reader_readNumber_132 (by decide) (fun c56 => ?_) (fun c56 => ?_)
                ·
                  exact absurd c56 (by decide)
                ·
                  refine V_iload d_Reader_readNumber_135 rfl ?_
                  refine V_if_eq 155 tc_0 d_Reader_readNumber_137 (by decide) (fun c57 => ?_) (fun c57 => ?_)
                  ·
                    refine V_iconst 1 d_Reader_readNumber_155 (by decide) ?_
                    refine V_goto 160 d_Reader_readNumber_156 (by decide) ?_
                    exact V_zret rfl (by decide) d_Reader_readNumber_160 ⟨1, rfl, ⟨hI39, f40, o8, o8Z, o8E, (kn_ne eh38 (kn_call fh15 o8K rfl) (by decide)), o9, o9Z, o9E, (kn_ne eh38 (kn_call fh15 o9K rfl) (by decide)), o10, o10Z, o10E, (kn_ne eh38 (kn_call fh15 o10K rfl) (by decide)), o11, o11Z, o11E, (kn_ne eh38 (kn_call fh15 o11K rfl) (by decide)), o19, o19Z, o19E, (kn_ne eh38 o19K (by decide)), o20, o20Z, o20E, (kn_ne eh38 o20K (by decide)), o11, o11Z, o11E, (kn_put eh38), (by have s1 := num_0 (lo := 0) (hi := 15) p5.2.2.1 p5.2.2.2.2.1 ⟨by (first | decide +kernel | omega), by (first | decide +kernel | omega)⟩; have s2 := x_c4_s (T 1 (x_vl b tZ)); exact Or.inl ⟨rfl, by (first | decide +kernel | omega), by (first | decide +kernel | omega), by (first | decide +kernel | omega), by (first | decide +kernel | omega), by (first | decide +kernel | omega), by (first | decide +kernel | omega), by (first | decide +kernel | omega), by (first | decide +kernel | omega)⟩)⟩⟩
                  ·
                    exact absurd c57 (by decide)
              ·
                exact absurd c55 (by decide)
            ·
              refine V_iconst 1 d_Reader_readNumber_95 (by decide) ?_
              refine V_goto 100 d_Reader_readNumber_96 (by decide) ?_
              refine V_istore 4 [some (.ref 88), some (.int 1), some (.int 0), some (.int o11), some (.int 1), none] d_Reader_readNumber_100 (by decide) rfl rfl ?_
              refine V_iload_n 2 d_Reader_readNumber_102 rfl rfl ?_
              refine V_iconst 1 d_Reader_readNumber_103 (by decide) ?_
              refine V_icmp_ne 127 tc_0 tc_1 d_Reader_readNumber_104 (by decide) (fun c58 => ?_) (fun c58 => ?_)
              ·
                refine V_iconst 0 d_Reader_readNumber_127 (by decide) ?_
                refine V_istore 5 [some (.ref 88), some (.int 1), some (.int 0), some (.int o11), some (.int 1), some (.int 0)] d_Reader_readNumber_128 (by decide) rfl rfl ?_
                refine V_iload d_Reader_readNumber_130 rfl ?_
                refine V_if_ne 140 tc_1 d_Reader_readNumber_132 (by decide) (fun c59 => ?_) (fun c59 => ?_)
                ·
                  refine V_aload_n 0 d_Reader_readNumber_140 rfl rfl ?_
                  refine V_iconst 4 d_Reader_readNumber_141 (by decide) ?_
                  refine V_aload_n 0 d_Reader_readNumber_142 rfl rfl ?_
                  refine V_getR fa_Reader_12 sk_88 rfl d_Reader_readNumber_143 ?_
                  refine N_getK fa_Reader_81 sk_89 rfl d_Reader_readNumber_146 (kn_ne eh38 (kn_call fh15 o9K rfl) (by decide)) ?_
                  refine N_callVI [.int 4, .int o9] [] cv_Reader_64 sk_88 rfl d_Reader_readNumber_149 rfl (Nat.le_of_ble_eq_true rfl) (by decide) (by decide) (c_Reader_isRefusedX h38 hI39 4 4 tc_4 o9 o9Z o9E) (fun z60 h61 z60Z z60E p62 => ?_)
                  obtain ⟨hI63, fh61, o65, o65Z, o65E, o65K, o66, o66Z, o66E, o66K, p62⟩ := p62
                  have f64 : fr S_Reader_readNumberX_1_0 h h61 := fr_call f40 fh61 rfl
                  refine V_if_eq 159 z60E d_Reader_readNumber_152 (by decide) (fun c67 => ?_) (fun c67 => ?_)
                  ·
                    refine V_iconst 0 d_Reader_readNumber_159 (by decide) ?_
                    exact V_zret rfl (by decide) d_Reader_readNumber_160 ⟨0, rfl, ⟨hI63, f64, o8, o8Z, o8E, (kn_call fh61 (kn_ne eh38 (kn_call fh15 o8K rfl) (by decide)) rfl), o9, o9Z, o9E, (kn_call fh61 (kn_ne eh38 (kn_call fh15 o9K rfl) (by decide)) rfl), o10, o10Z, o10E, (kn_call fh61 (kn_ne eh38 (kn_call fh15 o10K rfl) (by decide)) rfl), o11, o11Z, o11E, (kn_call fh61 (kn_ne eh38 (kn_call fh15 o11K rfl) (by decide)) rfl), o65, o65Z, o65E, o65K, o66, o66Z, o66E, o66K, o11, o11Z, o11E, (kn_call fh61 (kn_put eh38) rfl), (by have s1 := num_0 (lo := 0) (hi := 15) p5.2.2.1 p5.2.2.2.2.1 ⟨by (first | decide +kernel | omega), by (first | decide +kernel | omega)⟩; have s2 := x_c4_s (T 1 (x_vl b tZ)); exact Or.inr ⟨tc_0, Or.inr ⟨by (first | decide +kernel | omega), by (first | decide +kernel | omega), by (first | decide +kernel | omega)⟩, by (first | decide +kernel | omega)⟩)⟩⟩
                  ·
                    refine V_iconst 1 d_Reader_readNumber_155 (by decide) ?_
                    refine V_goto 160 d_Reader_readNumber_156 (by decide) ?_
                    exact V_zret rfl (by decide) d_Reader_readNumber_160 ⟨1, rfl, ⟨hI63, f64, o8, o8Z, o8E, (kn_call fh61 (kn_ne eh38 (kn_call fh15 o8K rfl) (by decide)) rfl), o9, o9Z, o9E, (kn_call fh61 (kn_ne eh38 (kn_call fh15 o9K rfl) (by decide)) rfl), o10, o10Z, o10E, (kn_call fh61 (kn_ne eh38 (kn_call fh15 o10K rfl) (by decide)) rfl), o11, o11Z, o11E, (kn_call fh61 (kn_ne eh38 (kn_call fh15 o11K rfl) (by decide)) rfl), o65, o65Z, o65E, o65K, o66, o66Z, o66E, o66K, o11, o11Z, o11E, (kn_call fh61 (kn_put eh38) rfl), (by have s1 := num_0 (lo := 0) (hi := 15) p5.2.2.1 p5.2.2.2.2.1 ⟨by (first | decide +kernel | omega), by (first | decide +kernel | omega)⟩; have s2 := x_c4_s (T 1 (x_vl b tZ)); exact Or.inl ⟨rfl, by (first | decide +kernel | omega), by (first | decide +kernel | omega), by (first | decide +kernel | omega), by (first | decide +kernel | omega), by (first | decide +kernel | omega), by (first | decide +kernel | omega), by (first | decide +kernel | omega), by (first | decide +kernel | omega)⟩)⟩⟩
                ·
                  exact absurd c59 (by decide)
              ·
                exact absurd c58 (by decide)
      ·
        refine V_aload_n 0 d_Reader_readNumber_51 rfl rfl ?_
        refine V_iconst 3 d_Reader_readNumber_52 (by decide) ?_
        refine V_aload_n 0 d_Reader_readNumber_53 rfl rfl ?_
        refine V_getR fa_Reader_12 sk_88 rfl d_Reader_readNumber_54 ?_
        refine N_getK fa_Reader_81 sk_89 rfl d_Reader_readNumber_57 (kn_call fh15 o9K rfl) ?_
        refine N_callVI [.int 3, .int o9] [] cv_Reader_64 sk_88 rfl d_Reader_readNumber_60 rfl (Nat.le_of_ble_eq_true rfl) (by decide) (by decide) (c_Reader_isRefusedX h15 hI17 3 3 tc_3 o9 o9Z o9E) (fun z68 h69 z68Z z68E p70 => ?_)
        obtain ⟨hI71, fh69, o73, o73Z, o73E, o73K, o74, o74Z, o74E, o74K, p70⟩ := p70
        have f72 : fr S_Reader_readNumberX_1_0 h h69 := fr_call f18 fh69 rfl
        obtain ⟨z75, z75Z, z75E, z75e⟩ : ∃ (y : Int32) (Y : Int), y.toInt = Y ∧ y = h69.1 91 0 := ⟨_, _, rfl, rfl⟩
        exact V_zret rfl (by rw [z68E]; omega) d_Reader_readNumber_63 ⟨z68, rfl, ⟨hI71, f72, o8, o8Z, o8E, (kn_call fh69 (kn_call fh15 o8K rfl) rfl), o9, o9Z, o9E, (kn_call fh69 (kn_call fh15 o9K rfl) rfl), o10, o10Z, o10E, (kn_call fh69 (kn_call fh15 o10K rfl) rfl), o11, o11Z, o11E, (kn_call fh69 (kn_call fh15 o11K rfl) rfl), o73, o73Z, o73E, o73K, o74, o74Z, o74E, o74K, z75, z75Z, z75E, z75e.symm, (by have s1 := num_3 (lo := 0) (hi := 15) p5.2.2.1 p5.2.2.2.2.1 (by (first | decide +kernel | omega)); exact Or.inr ⟨by (first | decide +kernel | omega), Or.inl ⟨by (first | decide +kernel | omega), by (first | decide +kernel | omega)⟩, by (first | decide +kernel | omega)⟩)⟩⟩
  ·
    have hk9 := num_k 0 15 p5 p16 (by (first | decide +kernel | omega))
    refine V_iconst 0 d_Reader_readNumber_15 (by decide) ?_
    obtain ⟨z76, z76Z, z76E, z76e⟩ : ∃ (y : Int32) (Y : Int), y.toInt = Y ∧ y = h15.1 91 0 := ⟨_, _, rfl, rfl⟩
    exact V_zret rfl (by decide) d_Reader_readNumber_16 ⟨0, rfl, ⟨hI17, f18, o8, o8Z, o8E, (kn_call fh15 o8K rfl), o9, o9Z, o9E, (kn_call fh15 o9K rfl), o10, o10Z, o10E, (kn_call fh15 o10K rfl), o11, o11Z, o11E, (kn_call fh15 o11K rfl), o19, o19Z, o19E, o19K, o20, o20Z, o20E, o20K, z76, z76Z, z76E, z76e.symm, (Or.inr ⟨tc_0, Or.inl ⟨hk9.1, hk9.2.1⟩, hk9.2.2⟩)⟩⟩
def S_Reader_readNumberX_1_1 : List (Nat × Option Nat) := [(89, some 2), (89, some 3), (89, some 4), (89, some 5), (88, some 5), (88, some 6), (91, some 1)]
abbrev q_Reader_readNumberX_1_1 (h : Hp) (b : Int → Int) (T : Nat → Int → Int) (s : Int32) (sZ : Int) (t : Int32) (tZ : Int) (a : Int32) (aZ : Int) (w : Int32) (wZ : Int) : Option Value → Hp → Prop := pInt (fun r h' => Inv h' ∧ fr S_Reader_readNumberX_1_1 h h' ∧ ∃ (k : Int32) (kZ : Int), k.toInt = kZ ∧ h'.1 89 2 = k ∧ ∃ (f : Int32) (fZ : Int), f.toInt = fZ ∧ h'.1 89 3 = f ∧ ∃ (u : Int32) (uZ : Int), u.toInt = uZ ∧ h'.1 89 4 = u ∧ ∃ (v : Int32) (vZ : Int), v.toInt = vZ ∧ h'.1 89 5 = v ∧ ∃ (e : Int32) (eZ : Int), e.toInt = eZ ∧ h'.1 88 6 = e ∧ ∃ (y : Int32) (yZ : Int), y.toInt = yZ ∧ h'.1 88 5 = y ∧ ∃ (x : Int32) (xZ : Int), x.toInt = xZ ∧ h'.1 91 1 = x ∧ (r.toInt = 1 ∧ x_cN b tZ 1 9 = 0 ∧ uZ = x_en b tZ ∧ xZ = x_vl b tZ ∧ eZ = wZ ∧ yZ = aZ ∧ tZ < uZ ∧ uZ ≤ sZ ∨ r.toInt = 0 ∧ (x_cN b tZ 1 9 ≠ 0 ∧ eZ = x_cN b tZ 1 9) ∧ yZ = x_fr b tZ))
set_option maxRecDepth 100000 in
theorem c_Reader_readNumberX_1_1 (h : Hp) (b : Int → Int) (T : Nat → Int → Int) (hI : Inv h) (s : Int32) (sZ : Int) (sE : s.toInt = sZ) (sK : h.1 89 1 = s) (t : Int32) (tZ : Int) (tE : t.toInt = tZ) (tK : h.1 89 4 = t) (a : Int32) (aZ : Int) (aE : a.toInt = aZ) (aK : h.1 88 5 = a) (w : Int32) (wZ : Int) (wE : w.toInt = wZ) (wK : h.1 88 6 = w) (hy0 : TP h 90 sZ b) (hy1 : 0 ≤ tZ ∧ tZ ≤ sZ) : Ct y_Reader_readNumber b_Reader_readNumber 6 (some .boolean) 3 60 [.ref 88, .int 1, .int 1] h (q_Reader_readNumberX_1_1 h b T s sZ t tZ a aZ w wZ) := by
  refine ct_ow R_Reader [some (.ref 88), some (.int 1), some (.int 1), none, none, none] rfl (by decide) rfl (Nat.le_of_ble_eq_true rfl) ?_
  have f0 : fr S_Reader_readNumberX_1_1 h h := fr_rf
  have g1 : 0 ≤ sZ ∧ sZ ≤ 160 := inv_at hI sE sK.symm rfl
  have g2 : 0 ≤ tZ ∧ tZ ≤ 160 := inv_at hI tE tK.symm rfl
  refine V_aload_n 0 d_Reader_readNumber_0 rfl rfl ?_
  refine V_getR fa_Reader_12 sk_88 rfl d_Reader_readNumber_1 ?_
  refine N_callVV [] [] cv_Reader_48 sk_89 rfl d_Reader_readNumber_4 rfl (Nat.le_of_ble_eq_true rfl) (by decide) (by decide) (c_Tape_advanceX h b hI s sZ sE sK t tZ tE tK (TP_fr f0 (fun _ => rfl) hy0) (by (first | decide +kernel | omega))) (fun h4 p5 => ?_)
  obtain ⟨hI6, fh4, o8, o8Z, o8E, o8K, o9, o9Z, o9E, o9K, o10, o10Z, o10E, o10K, o11, o11Z, o11E, o11K, p5⟩ := p5
  have f7 : fr S_Reader_readNumberX_1_1 h h4 := fr_call f0 fh4 rfl
  have g12 : 0 ≤ o9Z ∧ o9Z ≤ 160 := inv_at hI6 o9E o9K.symm rfl
  have g13 : 0 ≤ o10Z ∧ o10Z ≤ 160 := inv_at hI6 o10E o10K.symm rfl
  refine V_aload_n 0 d_Reader_readNumber_7 rfl rfl ?_
  refine V_iconst 2 d_Reader_readNumber_8 (by decide) ?_
  refine N_callVI [.int 2] [] cv_Reader_84 sk_88 rfl d_Reader_readNumber_9 rfl (Nat.le_of_ble_eq_true rfl) (by decide) (by decide) (c_Reader_isKindX h4 hI6 2 2 tc_2 o8 o8Z o8E o8K o9 o9Z o9E o9K a aZ aE (kn_call fh4 aK rfl) w wZ wE (kn_call fh4 wK rfl)) (fun z14 h15 z14Z z14E p16 => ?_)
  obtain ⟨hI17, fh15, o19, o19Z, o19E, o19K, o20, o20Z, o20E, o20K, p16⟩ := p16
  have f18 : fr S_Reader_readNumberX_1_1 h h15 := fr_call f7 fh15 rfl
  refine V_if_ne 17 z14E d_Reader_readNumber_12 (by decide) (fun c21 => ?_) (fun c21 => ?_)
  ·
    replace p16 := kd_y p16 (by (first | decide +kernel | omega))
    replace p5 := adv_2 p5 (by (first | decide +kernel | omega))
    refine V_aload_n 0 d_Reader_readNumber_17 rfl rfl ?_
    refine V_getR fa_Reader_12 sk_88 rfl d_Reader_readNumber_18 ?_
    refine N_getK fa_Reader_122 sk_89 rfl d_Reader_readNumber_21 (kn_call fh15 o11K rfl) ?_
    refine V_istore_n 3 [some (.ref 88), some (.int 1), some (.int 1), some (.int o11), none, none] d_Reader_readNumber_24 rfl (by decide) rfl rfl ?_
    refine V_iload_n 3 d_Reader_readNumber_25 rfl rfl ?_
    refine V_gets (v := .ref 133) zL ws_Reader_125 d_Reader_readNumber_26 ?_
    refine V_iconst 3 d_Reader_readNumber_29 (by decide) ?_
    refine V_iload_n 1 d_Reader_readNumber_30 rfl rfl ?_
    refine V_imulw d_Reader_readNumber_31 (fun z22 z22e => ?_)
    obtain rfl : z22 = 3 := z22e.trans (by decide)
    refine V_iload_n 2 d_Reader_readNumber_32 rfl rfl ?_
    refine V_iaddw d_Reader_readNumber_33 (fun z23 z23e => ?_)
    obtain rfl : z23 = 4 := z23e.trans (by decide)
    refine V_tald roL tc_4 (by decide) d_Reader_readNumber_34 (fun z24 z24Z z24E z24e => ?_)
    obtain rfl : z24 = 1 := z24e.trans rfl
    refine V_icmp_lt 51 o11E tc_1 d_Reader_readNumber_35 (by decide) (fun c25 => ?_) (fun c25 => ?_)
    ·
      refine V_aload_n 0 d_Reader_readNumber_51 rfl rfl ?_
      refine V_iconst 3 d_Reader_readNumber_52 (by decide) ?_
      refine V_aload_n 0 d_Reader_readNumber_53 rfl rfl ?_
      refine V_getR fa_Reader_12 sk_88 rfl d_Reader_readNumber_54 ?_
      refine N_getK fa_Reader_81 sk_89 rfl d_Reader_readNumber_57 (kn_call fh15 o9K rfl) ?_
      refine N_callVI [.int 3, .int o9] [] cv_Reader_64 sk_88 rfl d_Reader_readNumber_60 rfl (Nat.le_of_ble_eq_true rfl) (by decide) (by decide) (c_Reader_isRefusedX h15 hI17 3 3 tc_3 o9 o9Z o9E) (fun z26 h27 z26Z z26E p28 => ?_)
      obtain ⟨hI29, fh27, o31, o31Z, o31E, o31K, o32, o32Z, o32E, o32K, p28⟩ := p28
      have f30 : fr S_Reader_readNumberX_1_1 h h27 := fr_call f18 fh27 rfl
      obtain ⟨z33, z33Z, z33E, z33e⟩ : ∃ (y : Int32) (Y : Int), y.toInt = Y ∧ y = h27.1 91 1 := ⟨_, _, rfl, rfl⟩
      exact V_zret rfl (by rw [z26E]; omega) d_Reader_readNumber_63 ⟨z26, rfl, ⟨hI29, f30, o8, o8Z, o8E, (kn_call fh27 (kn_call fh15 o8K rfl) rfl), o9, o9Z, o9E, (kn_call fh27 (kn_call fh15 o9K rfl) rfl), o10, o10Z, o10E, (kn_call fh27 (kn_call fh15 o10K rfl) rfl), o11, o11Z, o11E, (kn_call fh27 (kn_call fh15 o11K rfl) rfl), o31, o31Z, o31E, o31K, o32, o32Z, o32E, o32K, z33, z33Z, z33E, z33e.symm, (by have s1 := num_3 (lo := 1) (hi := 9) p5.2.2.1 p5.2.2.2.2.1 (by (first | decide +kernel | omega)); exact Or.inr ⟨by (first | decide +kernel | omega), ⟨by (first | decide +kernel | omega), by (first | decide +kernel | omega)⟩, by (first | decide +kernel | omega)⟩)⟩⟩
    ·
      refine V_iload_n 3 d_Reader_readNumber_38 rfl rfl ?_
      refine V_gets (v := .ref 134) zM ws_Reader_128 d_Reader_readNumber_39 ?_
      refine V_iconst 3 d_Reader_readNumber_42 (by decide) ?_
      refine V_iload_n 1 d_Reader_readNumber_43 rfl rfl ?_
      refine V_imulw d_Reader_readNumber_44 (fun z34 z34e => ?_)
      obtain rfl : z34 = 3 := z34e.trans (by decide)
      refine V_iload_n 2 d_Reader_readNumber_45 rfl rfl ?_
      refine V_iaddw d_Reader_readNumber_46 (fun z35 z35e => ?_)
      obtain rfl : z35 = 4 := z35e.trans (by decide)
      refine V_tald roM tc_4 (by decide) d_Reader_readNumber_47 (fun z36 z36Z z36E z36e => ?_)
      obtain rfl : z36 = 9 := z36e.trans rfl
      refine V_icmp_le 64 o11E tc_9 d_Reader_readNumber_48 (by decide) (fun c37 => ?_) (fun c37 => ?_)
      ·
        refine V_aload_n 0 d_Reader_readNumber_64 rfl rfl ?_
        refine V_getR fa_Reader_25 sk_88 rfl d_Reader_readNumber_65 ?_
        refine V_iload_n 2 d_Reader_readNumber_68 rfl rfl ?_
        refine V_iload_n 3 d_Reader_readNumber_69 rfl rfl ?_
        refine N_iast sk_91 tc_1 (by (first | decide +kernel | omega)) d_Reader_readNumber_70 (fun h38 eh38 => ?_)
        have hI39 : Inv h38 := inv_full hI17 eh38 rfl
        have f40 : fr S_Reader_readNumberX_1_1 h h38 := fr_put f18 eh38 rfl
        refine V_iload_n 2 d_Reader_readNumber_71 rfl rfl ?_
        refine V_if_ne 99 tc_1 d_Reader_readNumber_72 (by decide) (fun c41 => ?_) (fun c41 => ?_)
        ·
          refine V_iconst 0 d_Reader_readNumber_99 (by decide) ?_
          refine V_istore 4 [some (.ref 88), some (.int 1), some (.int 1), some (.int o11), some (.int 0), none] d_Reader_readNumber_100 (by decide) rfl rfl ?_
          refine V_iload_n 2 d_Reader_readNumber_102 rfl rfl ?_
          refine V_iconst 1 d_Reader_readNumber_103 (by decide) ?_
          refine V_icmp_ne 127 tc_1 tc_1 d_Reader_readNumber_104 (by decide) (fun c42 => ?_) (fun c42 => ?_)
          ·
            exact absurd c42 (by decide)
          ·
            refine V_iload_n 1 d_Reader_readNumber_107 rfl rfl ?_
            refine V_bipush 9 d_Reader_readNumber_108 (by decide) ?_
            refine V_icmp_ne 127 tc_1 tc_9 d_Reader_readNumber_110 (by decide) (fun c43 => ?_) (fun c43 => ?_)
            ·
              refine V_iconst 0 d_Reader_readNumber_127 (by decide) ?_
              refine V_istore 5 [some (.ref 88), some (.int 1), some (.int 1), some (.int o11), some (.int 0), some (.int 0)] d_Reader_readNumber_128 (by decide) rfl rfl ?_
              refine V_iload d_Reader_readNumber_130 rfl ?_
              refine V_if_ne 140 tc_0 d_Reader_readNumber_132 (by decide) (fun c44 => ?_) (fun c44 => ?_)
              ·
                exact absurd c44 (by decide)
              ·
                refine V_iload d_Reader_readNumber_135 rfl ?_
                refine V_if_eq 155 tc_0 d_Reader_readNumber_137 (by decide) (fun c45 => ?_) (fun c45 => ?_)
                ·
                  refine V_iconst 1 d_Reader_readNumber_155 (by decide) ?_
                  refine V_goto 160 d_Reader_readNumber_156 (by decide) ?_
                  exact V_zret rfl (by decide) d_Reader_readNumber_160 ⟨1, rfl, ⟨hI39, f40, o8, o8Z, o8E, (kn_ne eh38 (kn_call fh15 o8K rfl) (by decide)), o9, o9Z, o9E, (kn_ne eh38 (kn_call fh15 o9K rfl) (by decide)), o10, o10Z, o10E, (kn_ne eh38 (kn_call fh15 o10K rfl) (by decide)), o11, o11Z, o11E, (kn_ne eh38 (kn_call fh15 o11K rfl) (by decide)), o19, o19Z, o19E, (kn_ne eh38 o19K (by decide)), o20, o20Z, o20E, (kn_ne eh38 o20K (by decide)), o11, o11Z, o11E, (kn_put eh38), (by have s1 := num_0 (lo := 1) (hi := 9) p5.2.2.1 p5.2.2.2.2.1 ⟨by (first | decide +kernel | omega), by (first | decide +kernel | omega)⟩; exact Or.inl ⟨rfl, by (first | decide +kernel | omega), by (first | decide +kernel | omega), by (first | decide +kernel | omega), by (first | decide +kernel | omega), by (first | decide +kernel | omega), by (first | decide +kernel | omega), by (first | decide +kernel | omega)⟩)⟩⟩
                ·
                  exact absurd c45 (by decide)
            ·
              exact absurd c43 (by decide)
        ·
          exact absurd c41 (by decide)
      ·
        refine V_aload_n 0 d_Reader_readNumber_51 rfl rfl ?_
        refine V_iconst 3 d_Reader_readNumber_52 (by decide) ?_
        refine V_aload_n 0 d_Reader_readNumber_53 rfl rfl ?_
        refine V_getR fa_Reader_12 sk_88 rfl d_Reader_readNumber_54 ?_
        refine N_getK fa_Reader_81 sk_89 rfl d_Reader_readNumber_57 (kn_call fh15 o9K rfl) ?_
        refine N_callVI [.int 3, .int o9] [] cv_Reader_64 sk_88 rfl d_Reader_readNumber_60 rfl (Nat.le_of_ble_eq_true rfl) (by decide) (by decide) (c_Reader_isRefusedX h15 hI17 3 3 tc_3 o9 o9Z o9E) (fun z46 h47 z46Z z46E p48 => ?_)
        obtain ⟨hI49, fh47, o51, o51Z, o51E, o51K, o52, o52Z, o52E, o52K, p48⟩ := p48
        have f50 : fr S_Reader_readNumberX_1_1 h h47 := fr_call f18 fh47 rfl
        obtain ⟨z53, z53Z, z53E, z53e⟩ : ∃ (y : Int32) (Y : Int), y.toInt = Y ∧ y = h47.1 91 1 := ⟨_, _, rfl, rfl⟩
        exact V_zret rfl (by rw [z46E]; omega) d_Reader_readNumber_63 ⟨z46, rfl, ⟨hI49, f50, o8, o8Z, o8E, (kn_call fh47 (kn_call fh15 o8K rfl) rfl), o9, o9Z, o9E, (kn_call fh47 (kn_call fh15 o9K rfl) rfl), o10, o10Z, o10E, (kn_call fh47 (kn_call fh15 o10K rfl) rfl), o11, o11Z, o11E, (kn_call fh47 (kn_call fh15 o11K rfl) rfl), o51, o51Z, o51E, o51K, o52, o52Z, o52E, o52K, z53, z53Z, z53E, z53e.symm, (by have s1 := num_3 (lo := 1) (hi := 9) p5.2.2.1 p5.2.2.2.2.1 (by (first | decide +kernel | omega)); exact Or.inr ⟨by (first | decide +kernel | omega), ⟨by (first | decide +kernel | omega), by (first | decide +kernel | omega)⟩, by (first | decide +kernel | omega)⟩)⟩⟩
  ·
    have hk9 := num_k 1 9 p5 p16 (by (first | decide +kernel | omega))
    refine V_iconst 0 d_Reader_readNumber_15 (by decide) ?_
    obtain ⟨z54, z54Z, z54E, z54e⟩ : ∃ (y : Int32) (Y : Int), y.toInt = Y ∧ y = h15.1 91 1 := ⟨_, _, rfl, rfl⟩
    exact V_zret rfl (by decide) d_Reader_readNumber_16 ⟨0, rfl, ⟨hI17, f18, o8, o8Z, o8E, (kn_call fh15 o8K rfl), o9, o9Z, o9E, (kn_call fh15 o9K rfl), o10, o10Z, o10E, (kn_call fh15 o10K rfl), o11, o11Z, o11E, (kn_call fh15 o11K rfl), o19, o19Z, o19E, o19K, o20, o20Z, o20E, o20K, z54, z54Z, z54E, z54e.symm, (Or.inr ⟨tc_0, ⟨hk9.1, hk9.2.1⟩, hk9.2.2⟩)⟩⟩
def S_Reader_readNumberX_2_0 : List (Nat × Option Nat) := [(89, some 2), (89, some 3), (89, some 4), (89, some 5), (88, some 5), (88, some 6), (91, some 0)]
abbrev q_Reader_readNumberX_2_0 (h : Hp) (b : Int → Int) (T : Nat → Int → Int) (s : Int32) (sZ : Int) (t : Int32) (tZ : Int) (a : Int32) (aZ : Int) (w : Int32) (wZ : Int) (z : Int32) (zZ : Int) : Option Value → Hp → Prop := pInt (fun r h' => Inv h' ∧ fr S_Reader_readNumberX_2_0 h h' ∧ ∃ (k : Int32) (kZ : Int), k.toInt = kZ ∧ h'.1 89 2 = k ∧ ∃ (f : Int32) (fZ : Int), f.toInt = fZ ∧ h'.1 89 3 = f ∧ ∃ (u : Int32) (uZ : Int), u.toInt = uZ ∧ h'.1 89 4 = u ∧ ∃ (v : Int32) (vZ : Int), v.toInt = vZ ∧ h'.1 89 5 = v ∧ ∃ (e : Int32) (eZ : Int), e.toInt = eZ ∧ h'.1 88 6 = e ∧ ∃ (y : Int32) (yZ : Int), y.toInt = yZ ∧ h'.1 88 5 = y ∧ ∃ (x : Int32) (xZ : Int), x.toInt = xZ ∧ h'.1 91 0 = x ∧ (r.toInt = 1 ∧ x_cN b tZ 0 15 = 0 ∧ x_c4 (T 2 (x_vl b tZ)) = 0 ∧ uZ = x_en b tZ ∧ xZ = x_vl b tZ ∧ eZ = wZ ∧ yZ = aZ ∧ tZ < uZ ∧ uZ ≤ sZ ∨ r.toInt = 0 ∧ (x_cN b tZ 0 15 ≠ 0 ∧ eZ = x_cN b tZ 0 15 ∨ x_cN b tZ 0 15 = 0 ∧ x_c4 (T 2 (x_vl b tZ)) ≠ 0 ∧ eZ = x_c4 (T 2 (x_vl b tZ))) ∧ yZ = x_fr b tZ))
set_option maxRecDepth 100000 in
theorem c_Reader_readNumberX_2_0 (h : Hp) (b : Int → Int) (T : Nat → Int → Int) (hI : Inv h) (s : Int32) (sZ : Int) (sE : s.toInt = sZ) (sK : h.1 89 1 = s) (t : Int32) (tZ : Int) (tE : t.toInt = tZ) (tK : h.1 89 4 = t) (a : Int32) (aZ : Int) (aE : a.toInt = aZ) (aK : h.1 88 5 = a) (w : Int32) (wZ : Int) (wE : w.toInt = wZ) (wK : h.1 88 6 = w) (z : Int32) (zZ : Int) (zE : z.toInt = zZ) (zK : h.1 92 2 = z) (hy0 : TP h 90 sZ b) (hy1 : 0 ≤ tZ ∧ tZ ≤ sZ) (hy2 : x_TB z (T 2)) : Ct y_Reader_readNumber b_Reader_readNumber 6 (some .boolean) 3 60 [.ref 88, .int 2, .int 0] h (q_Reader_readNumberX_2_0 h b T s sZ t tZ a aZ w wZ z zZ) := by
  refine ct_ow R_Reader [some (.ref 88), some (.int 2), some (.int 0), none, none, none] rfl (by decide) rfl (Nat.le_of_ble_eq_true rfl) ?_
  have f0 : fr S_Reader_readNumberX_2_0 h h := fr_rf
  have g1 : 0 ≤ sZ ∧ sZ ≤ 160 := inv_at hI sE sK.symm rfl
  have g2 : 0 ≤ tZ ∧ tZ ≤ 160 := inv_at hI tE tK.symm rfl
  refine V_aload_n 0 d_Reader_readNumber_0 rfl rfl ?_
  refine V_getR fa_Reader_12 sk_88 rfl d_Reader_readNumber_1 ?_
  refine N_callVV [] [] cv_Reader_48 sk_89 rfl d_Reader_readNumber_4 rfl (Nat.le_of_ble_eq_true rfl) (by decide) (by decide) (c_Tape_advanceX h b hI s sZ sE sK t tZ tE tK (TP_fr f0 (fun _ => rfl) hy0) (by (first | decide +kernel | omega))) (fun h4 p5 => ?_)
  obtain ⟨hI6, fh4, o8, o8Z, o8E, o8K, o9, o9Z, o9E, o9K, o10, o10Z, o10E, o10K, o11, o11Z, o11E, o11K, p5⟩ := p5
  have f7 : fr S_Reader_readNumberX_2_0 h h4 := fr_call f0 fh4 rfl
  have g12 : 0 ≤ o9Z ∧ o9Z ≤ 160 := inv_at hI6 o9E o9K.symm rfl
  have g13 : 0 ≤ o10Z ∧ o10Z ≤ 160 := inv_at hI6 o10E o10K.symm rfl
  refine V_aload_n 0 d_Reader_readNumber_7 rfl rfl ?_
  refine V_iconst 2 d_Reader_readNumber_8 (by decide) ?_
  refine N_callVI [.int 2] [] cv_Reader_84 sk_88 rfl d_Reader_readNumber_9 rfl (Nat.le_of_ble_eq_true rfl) (by decide) (by decide) (c_Reader_isKindX h4 hI6 2 2 tc_2 o8 o8Z o8E o8K o9 o9Z o9E o9K a aZ aE (kn_call fh4 aK rfl) w wZ wE (kn_call fh4 wK rfl)) (fun z14 h15 z14Z z14E p16 => ?_)
  obtain ⟨hI17, fh15, o19, o19Z, o19E, o19K, o20, o20Z, o20E, o20K, p16⟩ := p16
  have f18 : fr S_Reader_readNumberX_2_0 h h15 := fr_call f7 fh15 rfl
  refine V_if_ne 17 z14E d_Reader_readNumber_12 (by decide) (fun c21 => ?_) (fun c21 => ?_)
  ·
    replace p16 := kd_y p16 (by (first | decide +kernel | omega))
    replace p5 := adv_2 p5 (by (first | decide +kernel | omega))
    refine V_aload_n 0 d_Reader_readNumber_17 rfl rfl ?_
    refine V_getR fa_Reader_12 sk_88 rfl d_Reader_readNumber_18 ?_
    refine N_getK fa_Reader_122 sk_89 rfl d_Reader_readNumber_21 (kn_call fh15 o11K rfl) ?_
    refine V_istore_n 3 [some (.ref 88), some (.int 2), some (.int 0), some (.int o11), none, none] d_Reader_readNumber_24 rfl (by decide) rfl rfl ?_
    refine V_iload_n 3 d_Reader_readNumber_25 rfl rfl ?_
    refine V_gets (v := .ref 133) zL ws_Reader_125 d_Reader_readNumber_26 ?_
    refine V_iconst 3 d_Reader_readNumber_29 (by decide) ?_
    refine V_iload_n 1 d_Reader_readNumber_30 rfl rfl ?_
    refine V_imulw d_Reader_readNumber_31 (fun z22 z22e => ?_)
    obtain rfl : z22 = 6 := z22e.trans (by decide)
    refine V_iload_n 2 d_Reader_readNumber_32 rfl rfl ?_
    refine V_iaddw d_Reader_readNumber_33 (fun z23 z23e => ?_)
    obtain rfl : z23 = 6 := z23e.trans (by decide)
    refine V_tald roL tc_6 (by decide) d_Reader_readNumber_34 (fun z24 z24Z z24E z24e => ?_)
    obtain rfl : z24 = 0 := z24e.trans rfl
    refine V_icmp_lt 51 o11E tc_0 d_Reader_readNumber_35 (by decide) (fun c25 => ?_) (fun c25 => ?_)
    ·
      refine V_aload_n 0 d_Reader_readNumber_51 rfl rfl ?_
      refine V_iconst 3 d_Reader_readNumber_52 (by decide) ?_
      refine V_aload_n 0 d_Reader_readNumber_53 rfl rfl ?_
      refine V_getR fa_Reader_12 sk_88 rfl d_Reader_readNumber_54 ?_
      refine N_getK fa_Reader_81 sk_89 rfl d_Reader_readNumber_57 (kn_call fh15 o9K rfl) ?_
      refine N_callVI [.int 3, .int o9] [] cv_Reader_64 sk_88 rfl d_Reader_readNumber_60 rfl (Nat.le_of_ble_eq_true rfl) (by decide) (by decide) (c_Reader_isRefusedX h15 hI17 3 3 tc_3 o9 o9Z o9E) (fun z26 h27 z26Z z26E p28 => ?_)
      obtain ⟨hI29, fh27, o31, o31Z, o31E, o31K, o32, o32Z, o32E, o32K, p28⟩ := p28
      have f30 : fr S_Reader_readNumberX_2_0 h h27 := fr_call f18 fh27 rfl
      obtain ⟨z33, z33Z, z33E, z33e⟩ : ∃ (y : Int32) (Y : Int), y.toInt = Y ∧ y = h27.1 91 0 := ⟨_, _, rfl, rfl⟩
      exact V_zret rfl (by rw [z26E]; omega) d_Reader_readNumber_63 ⟨z26, rfl, ⟨hI29, f30, o8, o8Z, o8E, (kn_call fh27 (kn_call fh15 o8K rfl) rfl), o9, o9Z, o9E, (kn_call fh27 (kn_call fh15 o9K rfl) rfl), o10, o10Z, o10E, (kn_call fh27 (kn_call fh15 o10K rfl) rfl), o11, o11Z, o11E, (kn_call fh27 (kn_call fh15 o11K rfl) rfl), o31, o31Z, o31E, o31K, o32, o32Z, o32E, o32K, z33, z33Z, z33E, z33e.symm, (by have s1 := num_3 (lo := 0) (hi := 15) p5.2.2.1 p5.2.2.2.2.1 (by (first | decide +kernel | omega)); exact Or.inr ⟨by (first | decide +kernel | omega), Or.inl ⟨by (first | decide +kernel | omega), by (first | decide +kernel | omega)⟩, by (first | decide +kernel | omega)⟩)⟩⟩
    ·
      refine V_iload_n 3 d_Reader_readNumber_38 rfl rfl ?_
      refine V_gets (v := .ref 134) zM ws_Reader_128 d_Reader_readNumber_39 ?_
      refine V_iconst 3 d_Reader_readNumber_42 (by decide) ?_
      refine V_iload_n 1 d_Reader_readNumber_43 rfl rfl ?_
      refine V_imulw d_Reader_readNumber_44 (fun z34 z34e => ?_)
      obtain rfl : z34 = 6 := z34e.trans (by decide)
      refine V_iload_n 2 d_Reader_readNumber_45 rfl rfl ?_
      refine V_iaddw d_Reader_readNumber_46 (fun z35 z35e => ?_)
      obtain rfl : z35 = 6 := z35e.trans (by decide)
      refine V_tald roM tc_6 (by decide) d_Reader_readNumber_47 (fun z36 z36Z z36E z36e => ?_)
      obtain rfl : z36 = 15 := z36e.trans rfl
      refine V_icmp_le 64 o11E tc_15 d_Reader_readNumber_48 (by decide) (fun c37 => ?_) (fun c37 => ?_)
      ·
        refine V_aload_n 0 d_Reader_readNumber_64 rfl rfl ?_
        refine V_getR fa_Reader_25 sk_88 rfl d_Reader_readNumber_65 ?_
        refine V_iload_n 2 d_Reader_readNumber_68 rfl rfl ?_
        refine V_iload_n 3 d_Reader_readNumber_69 rfl rfl ?_
        refine N_iast sk_91 tc_0 (by (first | decide +kernel | omega)) d_Reader_readNumber_70 (fun h38 eh38 => ?_)
        have hI39 : Inv h38 := inv_full hI17 eh38 rfl
        have f40 : fr S_Reader_readNumberX_2_0 h h38 := fr_put f18 eh38 rfl
        refine V_iload_n 2 d_Reader_readNumber_71 rfl rfl ?_
        refine V_if_ne 99 tc_0 d_Reader_readNumber_72 (by decide) (fun c41 => ?_) (fun c41 => ?_)
        ·
          exact absurd c41 (by decide)
        ·
          refine V_iload_n 1 d_Reader_readNumber_75 rfl rfl ?_
          refine N_callSI [.int 2] [] cs_Reader_131 d_Reader_readNumber_76 rfl (Nat.le_of_ble_eq_true rfl) (by decide) (by decide) (c_Reader_isOfOneX_2 h38) (fun z42 h43 z42Z z42E p44 => ?_)
          obtain ⟨eh43, p44⟩ := p44
          subst eh43
          refine V_if_eq 99 z42E d_Reader_readNumber_79 (by decide) (fun c45 => ?_) (fun c45 => ?_)
          ·
            refine V_iconst 0 d_Reader_readNumber_99 (by decide) ?_
            refine V_istore 4 [some (.ref 88), some (.int 2), some (.int 0), some (.int o11), some (.int 0), none] d_Reader_readNumber_100 (by decide) rfl rfl ?_
            refine V_iload_n 2 d_Reader_readNumber_102 rfl rfl ?_
            refine V_iconst 1 d_Reader_readNumber_103 (by decide) ?_
            refine V_icmp_ne 127 tc_0 tc_1 d_Reader_readNumber_104 (by decide) (fun c46 => ?_) (fun c46 => ?_)
            ·
              refine V_iconst 0 d_Reader_readNumber_127 (by decide) ?_
              refine V_istore 5 [some (.ref 88), some (.int 2), some (.int 0), some (.int o11), some (.int 0), some (.int 0)] d_Reader_readNumber_128 (by decide) rfl rfl ?_
              refine V_iload d_Reader_readNumber_130 rfl ?_
              refine V_if_ne 140 tc_0 d_Reader_readNumber_132 (by decide) (fun c47 => ?_) (fun c47 => ?_)
              ·
                exact absurd c47 (by decide)
              ·
                refine V_iload d_Reader_readNumber_135 rfl ?_
                refine V_if_eq 155 tc_0 d_Reader_readNumber_137 (by decide) (fun c48 => ?_) (fun c48 => ?_)
                ·
                  refine V_iconst 1 d_Reader_readNumber_155 (by decide) ?_
                  refine V_goto 160 d_Reader_readNumber_156 (by decide) ?_
                  exact V_zret rfl (by decide) d_Reader_readNumber_160 ⟨1, rfl, ⟨hI39, f40, o8, o8Z, o8E, (kn_ne eh38 (kn_call fh15 o8K rfl) (by decide)), o9, o9Z, o9E, (kn_ne eh38 (kn_call fh15 o9K rfl) (by decide)), o10, o10Z, o10E, (kn_ne eh38 (kn_call fh15 o10K rfl) (by decide)), o11, o11Z, o11E, (kn_ne eh38 (kn_call fh15 o11K rfl) (by decide)), o19, o19Z, o19E, (kn_ne eh38 o19K (by decide)), o20, o20Z, o20E, (kn_ne eh38 o20K (by decide)), o11, o11Z, o11E, (kn_put eh38), (by have s1 := num_0 (lo := 0) (hi := 15) p5.2.2.1 p5.2.2.2.2.1 ⟨by (first | decide +kernel | omega), by (first | decide +kernel | omega)⟩; have s2 := x_c4_s (T 2 (x_vl b tZ)); exact Or.inl ⟨rfl, by (first | decide +kernel | omega), by (first | decide +kernel | omega), by (first | decide +kernel | omega), by (first | decide +kernel | omega), by (first | decide +kernel | omega), by (first | decide +kernel | omega), by (first | decide +kernel | omega), by (first | decide +kernel | omega)⟩)⟩⟩
                ·
                  exact absurd c48 (by decide)
            ·
              exact absurd c46 (by decide)
          ·
            refine V_aload_n 0 d_Reader_readNumber_82 rfl rfl ?_
            refine V_getR fa_Reader_29 sk_88 rfl d_Reader_readNumber_83 ?_
            refine V_iload_n 1 d_Reader_readNumber_86 rfl rfl ?_
            refine N_ialdK sk_92 tc_2 (by (first | decide +kernel | omega)) d_Reader_readNumber_87 (kn_ne eh38 (kn_call fh15 (kn_call fh4 zK rfl) rfl) (by decide)) ?_
            refine V_iload_n 3 d_Reader_readNumber_88 rfl rfl ?_
            refine N_ishr d_Reader_readNumber_89 (fun z50 z50Z z50E z50e => ?_)
            refine V_iconst 1 d_Reader_readNumber_90 (by decide) ?_
            refine N_iand d_Reader_readNumber_91 (fun z51 z51Z z51E z51e => ?_)
            have g52 : z51Z = T 2 o11Z := x_bt_of hy2 (by (first | decide +kernel | omega)) (by (first | decide +kernel | omega)) o11E z51E (by assumption) (by assumption)
            have g53 : T 2 o11Z = T 2 (x_vl b tZ) := congrArg (T 2) (by (first | decide +kernel | omega))
            refine V_if_eq 99 z51E d_Reader_readNumber_92 (by decide) (fun c54 => ?_) (fun c54 => ?_)
            ·
              refine V_iconst 0 d_Reader_readNumber_99 (by decide) ?_
              refine V_istore 4 [some (.ref 88), some (.int 2), some (.int 0), some (.int o11), some (.int 0), none] d_Reader_readNumber_100 (by decide) rfl rfl ?_
              refine V_iload_n 2 d_Reader_readNumber_102 rfl rfl ?_
              refine V_iconst 1 d_Reader_readNumber_103 (by decide) ?_
              refine V_icmp_ne 127 tc_0 tc_1 d_Reader_readNumber_104 (by decide) (fun c55 => ?_) (fun c55 => ?_)
              ·
                refine V_iconst 0 d_Reader_readNumber_127 (by decide) ?_
                refine V_istore 5 [some (.ref 88), some (.int 2), some (.int 0), some (.int o11), some (.int 0), some (.int 0)] d_Reader_readNumber_128 (by decide) rfl rfl ?_
                refine V_iload d_Reader_readNumber_130 rfl ?_
                refine V_if_ne 140 tc_0 d_Reader_readNumber_132 (by decide) (fun c56 => ?_) (fun c56 => ?_)
                ·
                  exact absurd c56 (by decide)
                ·
                  refine V_iload d_Reader_readNumber_135 rfl ?_
                  refine V_if_eq 155 tc_0 d_Reader_readNumber_137 (by decide) (fun c57 => ?_) (fun c57 => ?_)
                  ·
                    refine V_iconst 1 d_Reader_readNumber_155 (by decide) ?_
                    refine V_goto 160 d_Reader_readNumber_156 (by decide) ?_
                    exact V_zret rfl (by decide) d_Reader_readNumber_160 ⟨1, rfl, ⟨hI39, f40, o8, o8Z, o8E, (kn_ne eh38 (kn_call fh15 o8K rfl) (by decide)), o9, o9Z, o9E, (kn_ne eh38 (kn_call fh15 o9K rfl) (by decide)), o10, o10Z, o10E, (kn_ne eh38 (kn_call fh15 o10K rfl) (by decide)), o11, o11Z, o11E, (kn_ne eh38 (kn_call fh15 o11K rfl) (by decide)), o19, o19Z, o19E, (kn_ne eh38 o19K (by decide)), o20, o20Z, o20E, (kn_ne eh38 o20K (by decide)), o11, o11Z, o11E, (kn_put eh38), (by have s1 := num_0 (lo := 0) (hi := 15) p5.2.2.1 p5.2.2.2.2.1 ⟨by (first | decide +kernel | omega), by (first | decide +kernel | omega)⟩; have s2 := x_c4_s (T 2 (x_vl b tZ)); exact Or.inl ⟨rfl, by (first | decide +kernel | omega), by (first | decide +kernel | omega), by (first | decide +kernel | omega), by (first | decide +kernel | omega), by (first | decide +kernel | omega), by (first | decide +kernel | omega), by (first | decide +kernel | omega), by (first | decide +kernel | omega)⟩)⟩⟩
                  ·
                    exact absurd c57 (by decide)
              ·
                exact absurd c55 (by decide)
            ·
              refine V_iconst 1 d_Reader_readNumber_95 (by decide) ?_
              refine V_goto 100 d_Reader_readNumber_96 (by decide) ?_
              refine V_istore 4 [some (.ref 88), some (.int 2), some (.int 0), some (.int o11), some (.int 1), none] d_Reader_readNumber_100 (by decide) rfl rfl ?_
              refine V_iload_n 2 d_Reader_readNumber_102 rfl rfl ?_
              refine V_iconst 1 d_Reader_readNumber_103 (by decide) ?_
              refine V_icmp_ne 127 tc_0 tc_1 d_Reader_readNumber_104 (by decide) (fun c58 => ?_) (fun c58 => ?_)
              ·
                refine V_iconst 0 d_Reader_readNumber_127 (by decide) ?_
                refine V_istore 5 [some (.ref 88), some (.int 2), some (.int 0), some (.int o11), some (.int 1), some (.int 0)] d_Reader_readNumber_128 (by decide) rfl rfl ?_
                refine V_iload d_Reader_readNumber_130 rfl ?_
                refine V_if_ne 140 tc_1 d_Reader_readNumber_132 (by decide) (fun c59 => ?_) (fun c59 => ?_)
                ·
                  refine V_aload_n 0 d_Reader_readNumber_140 rfl rfl ?_
                  refine V_iconst 4 d_Reader_readNumber_141 (by decide) ?_
                  refine V_aload_n 0 d_Reader_readNumber_142 rfl rfl ?_
                  refine V_getR fa_Reader_12 sk_88 rfl d_Reader_readNumber_143 ?_
                  refine N_getK fa_Reader_81 sk_89 rfl d_Reader_readNumber_146 (kn_ne eh38 (kn_call fh15 o9K rfl) (by decide)) ?_
                  refine N_callVI [.int 4, .int o9] [] cv_Reader_64 sk_88 rfl d_Reader_readNumber_149 rfl (Nat.le_of_ble_eq_true rfl) (by decide) (by decide) (c_Reader_isRefusedX h38 hI39 4 4 tc_4 o9 o9Z o9E) (fun z60 h61 z60Z z60E p62 => ?_)
                  obtain ⟨hI63, fh61, o65, o65Z, o65E, o65K, o66, o66Z, o66E, o66K, p62⟩ := p62
                  have f64 : fr S_Reader_readNumberX_2_0 h h61 := fr_call f40 fh61 rfl
                  refine V_if_eq 159 z60E d_Reader_readNumber_152 (by decide) (fun c67 => ?_) (fun c67 => ?_)
                  ·
                    refine V_iconst 0 d_Reader_readNumber_159 (by decide) ?_
                    exact V_zret rfl (by decide) d_Reader_readNumber_160 ⟨0, rfl, ⟨hI63, f64, o8, o8Z, o8E, (kn_call fh61 (kn_ne eh38 (kn_call fh15 o8K rfl) (by decide)) rfl), o9, o9Z, o9E, (kn_call fh61 (kn_ne eh38 (kn_call fh15 o9K rfl) (by decide)) rfl), o10, o10Z, o10E, (kn_call fh61 (kn_ne eh38 (kn_call fh15 o10K rfl) (by decide)) rfl), o11, o11Z, o11E, (kn_call fh61 (kn_ne eh38 (kn_call fh15 o11K rfl) (by decide)) rfl), o65, o65Z, o65E, o65K, o66, o66Z, o66E, o66K, o11, o11Z, o11E, (kn_call fh61 (kn_put eh38) rfl), (by have s1 := num_0 (lo := 0) (hi := 15) p5.2.2.1 p5.2.2.2.2.1 ⟨by (first | decide +kernel | omega), by (first | decide +kernel | omega)⟩; have s2 := x_c4_s (T 2 (x_vl b tZ)); exact Or.inr ⟨tc_0, Or.inr ⟨by (first | decide +kernel | omega), by (first | decide +kernel | omega), by (first | decide +kernel | omega)⟩, by (first | decide +kernel | omega)⟩)⟩⟩
                  ·
                    refine V_iconst 1 d_Reader_readNumber_155 (by decide) ?_
                    refine V_goto 160 d_Reader_readNumber_156 (by decide) ?_
                    exact V_zret rfl (by decide) d_Reader_readNumber_160 ⟨1, rfl, ⟨hI63, f64, o8, o8Z, o8E, (kn_call fh61 (kn_ne eh38 (kn_call fh15 o8K rfl) (by decide)) rfl), o9, o9Z, o9E, (kn_call fh61 (kn_ne eh38 (kn_call fh15 o9K rfl) (by decide)) rfl), o10, o10Z, o10E, (kn_call fh61 (kn_ne eh38 (kn_call fh15 o10K rfl) (by decide)) rfl), o11, o11Z, o11E, (kn_call fh61 (kn_ne eh38 (kn_call fh15 o11K rfl) (by decide)) rfl), o65, o65Z, o65E, o65K, o66, o66Z, o66E, o66K, o11, o11Z, o11E, (kn_call fh61 (kn_put eh38) rfl), (by have s1 := num_0 (lo := 0) (hi := 15) p5.2.2.1 p5.2.2.2.2.1 ⟨by (first | decide +kernel | omega), by (first | decide +kernel | omega)⟩; have s2 := x_c4_s (T 2 (x_vl b tZ)); exact Or.inl ⟨rfl, by (first | decide +kernel | omega), by (first | decide +kernel | omega), by (first | decide +kernel | omega), by (first | decide +kernel | omega), by (first | decide +kernel | omega), by (first | decide +kernel | omega), by (first | decide +kernel | omega), by (first | decide +kernel | omega)⟩)⟩⟩
                ·
                  exact absurd c59 (by decide)
              ·
                exact absurd c58 (by decide)
      ·
        refine V_aload_n 0 d_Reader_readNumber_51 rfl rfl ?_
        refine V_iconst 3 d_Reader_readNumber_52 (by decide) ?_
        refine V_aload_n 0 d_Reader_readNumber_53 rfl rfl ?_
        refine V_getR fa_Reader_12 sk_88 rfl d_Reader_readNumber_54 ?_
        refine N_getK fa_Reader_81 sk_89 rfl d_Reader_readNumber_57 (kn_call fh15 o9K rfl) ?_
        refine N_callVI [.int 3, .int o9] [] cv_Reader_64 sk_88 rfl d_Reader_readNumber_60 rfl (Nat.le_of_ble_eq_true rfl) (by decide) (by decide) (c_Reader_isRefusedX h15 hI17 3 3 tc_3 o9 o9Z o9E) (fun z68 h69 z68Z z68E p70 => ?_)
        obtain ⟨hI71, fh69, o73, o73Z, o73E, o73K, o74, o74Z, o74E, o74K, p70⟩ := p70
        have f72 : fr S_Reader_readNumberX_2_0 h h69 := fr_call f18 fh69 rfl
        obtain ⟨z75, z75Z, z75E, z75e⟩ : ∃ (y : Int32) (Y : Int), y.toInt = Y ∧ y = h69.1 91 0 := ⟨_, _, rfl, rfl⟩
        exact V_zret rfl (by rw [z68E]; omega) d_Reader_readNumber_63 ⟨z68, rfl, ⟨hI71, f72, o8, o8Z, o8E, (kn_call fh69 (kn_call fh15 o8K rfl) rfl), o9, o9Z, o9E, (kn_call fh69 (kn_call fh15 o9K rfl) rfl), o10, o10Z, o10E, (kn_call fh69 (kn_call fh15 o10K rfl) rfl), o11, o11Z, o11E, (kn_call fh69 (kn_call fh15 o11K rfl) rfl), o73, o73Z, o73E, o73K, o74, o74Z, o74E, o74K, z75, z75Z, z75E, z75e.symm, (by have s1 := num_3 (lo := 0) (hi := 15) p5.2.2.1 p5.2.2.2.2.1 (by (first | decide +kernel | omega)); exact Or.inr ⟨by (first | decide +kernel | omega), Or.inl ⟨by (first | decide +kernel | omega), by (first | decide +kernel | omega)⟩, by (first | decide +kernel | omega)⟩)⟩⟩
  ·
    have hk9 := num_k 0 15 p5 p16 (by (first | decide +kernel | omega))
    refine V_iconst 0 d_Reader_readNumber_15 (by decide) ?_
    obtain ⟨z76, z76Z, z76E, z76e⟩ : ∃ (y : Int32) (Y : Int), y.toInt = Y ∧ y = h15.1 91 0 := ⟨_, _, rfl, rfl⟩
    exact V_zret rfl (by decide) d_Reader_readNumber_16 ⟨0, rfl, ⟨hI17, f18, o8, o8Z, o8E, (kn_call fh15 o8K rfl), o9, o9Z, o9E, (kn_call fh15 o9K rfl), o10, o10Z, o10E, (kn_call fh15 o10K rfl), o11, o11Z, o11E, (kn_call fh15 o11K rfl), o19, o19Z, o19E, o19K, o20, o20Z, o20E, o20K, z76, z76Z, z76E, z76e.symm, (Or.inr ⟨tc_0, Or.inl ⟨hk9.1, hk9.2.1⟩, hk9.2.2⟩)⟩⟩
def S_Reader_readNumberX_3_0 : List (Nat × Option Nat) := [(89, some 2), (89, some 3), (89, some 4), (89, some 5), (88, some 5), (88, some 6), (91, some 0)]
abbrev q_Reader_readNumberX_3_0 (h : Hp) (b : Int → Int) (T : Nat → Int → Int) (s : Int32) (sZ : Int) (t : Int32) (tZ : Int) (a : Int32) (aZ : Int) (w : Int32) (wZ : Int) (z : Int32) (zZ : Int) : Option Value → Hp → Prop := pInt (fun r h' => Inv h' ∧ fr S_Reader_readNumberX_3_0 h h' ∧ ∃ (k : Int32) (kZ : Int), k.toInt = kZ ∧ h'.1 89 2 = k ∧ ∃ (f : Int32) (fZ : Int), f.toInt = fZ ∧ h'.1 89 3 = f ∧ ∃ (u : Int32) (uZ : Int), u.toInt = uZ ∧ h'.1 89 4 = u ∧ ∃ (v : Int32) (vZ : Int), v.toInt = vZ ∧ h'.1 89 5 = v ∧ ∃ (e : Int32) (eZ : Int), e.toInt = eZ ∧ h'.1 88 6 = e ∧ ∃ (y : Int32) (yZ : Int), y.toInt = yZ ∧ h'.1 88 5 = y ∧ ∃ (x : Int32) (xZ : Int), x.toInt = xZ ∧ h'.1 91 0 = x ∧ (r.toInt = 1 ∧ x_cN b tZ 0 15 = 0 ∧ x_c4 (T 3 (x_vl b tZ)) = 0 ∧ uZ = x_en b tZ ∧ xZ = x_vl b tZ ∧ eZ = wZ ∧ yZ = aZ ∧ tZ < uZ ∧ uZ ≤ sZ ∨ r.toInt = 0 ∧ (x_cN b tZ 0 15 ≠ 0 ∧ eZ = x_cN b tZ 0 15 ∨ x_cN b tZ 0 15 = 0 ∧ x_c4 (T 3 (x_vl b tZ)) ≠ 0 ∧ eZ = x_c4 (T 3 (x_vl b tZ))) ∧ yZ = x_fr b tZ))
set_option maxRecDepth 100000 in
theorem c_Reader_readNumberX_3_0 (h : Hp) (b : Int → Int) (T : Nat → Int → Int) (hI : Inv h) (s : Int32) (sZ : Int) (sE : s.toInt = sZ) (sK : h.1 89 1 = s) (t : Int32) (tZ : Int) (tE : t.toInt = tZ) (tK : h.1 89 4 = t) (a : Int32) (aZ : Int) (aE : a.toInt = aZ) (aK : h.1 88 5 = a) (w : Int32) (wZ : Int) (wE : w.toInt = wZ) (wK : h.1 88 6 = w) (z : Int32) (zZ : Int) (zE : z.toInt = zZ) (zK : h.1 92 3 = z) (hy0 : TP h 90 sZ b) (hy1 : 0 ≤ tZ ∧ tZ ≤ sZ) (hy2 : x_TB z (T 3)) : Ct y_Reader_readNumber b_Reader_readNumber 6 (some .boolean) 3 60 [.ref 88, .int 3, .int 0] h (q_Reader_readNumberX_3_0 h b T s sZ t tZ a aZ w wZ z zZ) := by
  refine ct_ow R_Reader [some (.ref 88), some (.int 3), some (.int 0), none, none, none] rfl (by decide) rfl (Nat.le_of_ble_eq_true rfl) ?_
  have f0 : fr S_Reader_readNumberX_3_0 h h := fr_rf
  have g1 : 0 ≤ sZ ∧ sZ ≤ 160 := inv_at hI sE sK.symm rfl
  have g2 : 0 ≤ tZ ∧ tZ ≤ 160 := inv_at hI tE tK.symm rfl
  refine V_aload_n 0 d_Reader_readNumber_0 rfl rfl ?_
  refine V_getR fa_Reader_12 sk_88 rfl d_Reader_readNumber_1 ?_
  refine N_callVV [] [] cv_Reader_48 sk_89 rfl d_Reader_readNumber_4 rfl (Nat.le_of_ble_eq_true rfl) (by decide) (by decide) (c_Tape_advanceX h b hI s sZ sE sK t tZ tE tK (TP_fr f0 (fun _ => rfl) hy0) (by (first | decide +kernel | omega))) (fun h4 p5 => ?_)
  obtain ⟨hI6, fh4, o8, o8Z, o8E, o8K, o9, o9Z, o9E, o9K, o10, o10Z, o10E, o10K, o11, o11Z, o11E, o11K, p5⟩ := p5
  have f7 : fr S_Reader_readNumberX_3_0 h h4 := fr_call f0 fh4 rfl
  have g12 : 0 ≤ o9Z ∧ o9Z ≤ 160 := inv_at hI6 o9E o9K.symm rfl
  have g13 : 0 ≤ o10Z ∧ o10Z ≤ 160 := inv_at hI6 o10E o10K.symm rfl
  refine V_aload_n 0 d_Reader_readNumber_7 rfl rfl ?_
  refine V_iconst 2 d_Reader_readNumber_8 (by decide) ?_
  refine N_callVI [.int 2] [] cv_Reader_84 sk_88 rfl d_Reader_readNumber_9 rfl (Nat.le_of_ble_eq_true rfl) (by decide) (by decide) (c_Reader_isKindX h4 hI6 2 2 tc_2 o8 o8Z o8E o8K o9 o9Z o9E o9K a aZ aE (kn_call fh4 aK rfl) w wZ wE (kn_call fh4 wK rfl)) (fun z14 h15 z14Z z14E p16 => ?_)
  obtain ⟨hI17, fh15, o19, o19Z, o19E, o19K, o20, o20Z, o20E, o20K, p16⟩ := p16
  have f18 : fr S_Reader_readNumberX_3_0 h h15 := fr_call f7 fh15 rfl
  refine V_if_ne 17 z14E d_Reader_readNumber_12 (by decide) (fun c21 => ?_) (fun c21 => ?_)
  ·
    replace p16 := kd_y p16 (by (first | decide +kernel | omega))
    replace p5 := adv_2 p5 (by (first | decide +kernel | omega))
    refine V_aload_n 0 d_Reader_readNumber_17 rfl rfl ?_
    refine V_getR fa_Reader_12 sk_88 rfl d_Reader_readNumber_18 ?_
    refine N_getK fa_Reader_122 sk_89 rfl d_Reader_readNumber_21 (kn_call fh15 o11K rfl) ?_
    refine V_istore_n 3 [some (.ref 88), some (.int 3), some (.int 0), some (.int o11), none, none] d_Reader_readNumber_24 rfl (by decide) rfl rfl ?_
    refine V_iload_n 3 d_Reader_readNumber_25 rfl rfl ?_
    refine V_gets (v := .ref 133) zL ws_Reader_125 d_Reader_readNumber_26 ?_
    refine V_iconst 3 d_Reader_readNumber_29 (by decide) ?_
    refine V_iload_n 1 d_Reader_readNumber_30 rfl rfl ?_
    refine V_imulw d_Reader_readNumber_31 (fun z22 z22e => ?_)
    obtain rfl : z22 = 9 := z22e.trans (by decide)
    refine V_iload_n 2 d_Reader_readNumber_32 rfl rfl ?_
    refine V_iaddw d_Reader_readNumber_33 (fun z23 z23e => ?_)
    obtain rfl : z23 = 9 := z23e.trans (by decide)
    refine V_tald roL tc_9 (by decide) d_Reader_readNumber_34 (fun z24 z24Z z24E z24e => ?_)
    obtain rfl : z24 = 0 := z24e.trans rfl
    refine V_icmp_lt 51 o11E tc_0 d_Reader_readNumber_35 (by decide) (fun c25 => ?_) (fun c25 => ?_)
    ·
      refine V_aload_n 0 d_Reader_readNumber_51 rfl rfl ?_
      refine V_iconst 3 d_Reader_readNumber_52 (by decide) ?_
      refine V_aload_n 0 d_Reader_readNumber_53 rfl rfl ?_
      refine V_getR fa_Reader_12 sk_88 rfl d_Reader_readNumber_54 ?_
      refine N_getK fa_Reader_81 sk_89 rfl d_Reader_readNumber_57 (kn_call fh15 o9K rfl) ?_
      refine N_callVI [.int 3, .int o9] [] cv_Reader_64 sk_88 rfl d_Reader_readNumber_60 rfl (Nat.le_of_ble_eq_true rfl) (by decide) (by decide) (c_Reader_isRefusedX h15 hI17 3 3 tc_3 o9 o9Z o9E) (fun z26 h27 z26Z z26E p28 => ?_)
      obtain ⟨hI29, fh27, o31, o31Z, o31E, o31K, o32, o32Z, o32E, o32K, p28⟩ := p28
      have f30 : fr S_Reader_readNumberX_3_0 h h27 := fr_call f18 fh27 rfl
      obtain ⟨z33, z33Z, z33E, z33e⟩ : ∃ (y : Int32) (Y : Int), y.toInt = Y ∧ y = h27.1 91 0 := ⟨_, _, rfl, rfl⟩
      exact V_zret rfl (by rw [z26E]; omega) d_Reader_readNumber_63 ⟨z26, rfl, ⟨hI29, f30, o8, o8Z, o8E, (kn_call fh27 (kn_call fh15 o8K rfl) rfl), o9, o9Z, o9E, (kn_call fh27 (kn_call fh15 o9K rfl) rfl), o10, o10Z, o10E, (kn_call fh27 (kn_call fh15 o10K rfl) rfl), o11, o11Z, o11E, (kn_call fh27 (kn_call fh15 o11K rfl) rfl), o31, o31Z, o31E, o31K, o32, o32Z, o32E, o32K, z33, z33Z, z33E, z33e.symm, (by have s1 := num_3 (lo := 0) (hi := 15) p5.2.2.1 p5.2.2.2.2.1 (by (first | decide +kernel | omega)); exact Or.inr ⟨by (first | decide +kernel | omega), Or.inl ⟨by (first | decide +kernel | omega), by (first | decide +kernel | omega)⟩, by (first | decide +kernel | omega)⟩)⟩⟩
    ·
      refine V_iload_n 3 d_Reader_readNumber_38 rfl rfl ?_
      refine V_gets (v := .ref 134) zM ws_Reader_128 d_Reader_readNumber_39 ?_
      refine V_iconst 3 d_Reader_readNumber_42 (by decide) ?_
      refine V_iload_n 1 d_Reader_readNumber_43 rfl rfl ?_
      refine V_imulw d_Reader_readNumber_44 (fun z34 z34e => ?_)
      obtain rfl : z34 = 9 := z34e.trans (by decide)
      refine V_iload_n 2 d_Reader_readNumber_45 rfl rfl ?_
      refine V_iaddw d_Reader_readNumber_46 (fun z35 z35e => ?_)
      obtain rfl : z35 = 9 := z35e.trans (by decide)
      refine V_tald roM tc_9 (by decide) d_Reader_readNumber_47 (fun z36 z36Z z36E z36e => ?_)
      obtain rfl : z36 = 15 := z36e.trans rfl
      refine V_icmp_le 64 o11E tc_15 d_Reader_readNumber_48 (by decide) (fun c37 => ?_) (fun c37 => ?_)
      ·
        refine V_aload_n 0 d_Reader_readNumber_64 rfl rfl ?_
        refine V_getR fa_Reader_25 sk_88 rfl d_Reader_readNumber_65 ?_
        refine V_iload_n 2 d_Reader_readNumber_68 rfl rfl ?_
        refine V_iload_n 3 d_Reader_readNumber_69 rfl rfl ?_
        refine N_iast sk_91 tc_0 (by (first | decide +kernel | omega)) d_Reader_readNumber_70 (fun h38 eh38 => ?_)
        have hI39 : Inv h38 := inv_full hI17 eh38 rfl
        have f40 : fr S_Reader_readNumberX_3_0 h h38 := fr_put f18 eh38 rfl
        refine V_iload_n 2 d_Reader_readNumber_71 rfl rfl ?_
        refine V_if_ne 99 tc_0 d_Reader_readNumber_72 (by decide) (fun c41 => ?_) (fun c41 => ?_)
        ·
          exact absurd c41 (by decide)
        ·
          refine V_iload_n 1 d_Reader_readNumber_75 rfl rfl ?_
          refine N_callSI [.int 3] [] cs_Reader_131 d_Reader_readNumber_76 rfl (Nat.le_of_ble_eq_true rfl) (by decide) (by decide) (c_Reader_isOfOneX_3 h38) (fun z42 h43 z42Z z42E p44 => ?_)
          obtain ⟨eh43, p44⟩ := p44
          subst eh43
          refine V_if_eq 99 z42E d_Reader_readNumber_79 (by decide) (fun c45 => ?_) (fun c45 => ?_)
          ·
            refine V_iconst 0 d_Reader_readNumber_99 (by decide) ?_
            refine V_istore 4 [some (.ref 88), some (.int 3), some (.int 0), some (.int o11), some (.int 0), none] d_Reader_readNumber_100 (by decide) rfl rfl ?_
            refine V_iload_n 2 d_Reader_readNumber_102 rfl rfl ?_
            refine V_iconst 1 d_Reader_readNumber_103 (by decide) ?_
            refine V_icmp_ne 127 tc_0 tc_1 d_Reader_readNumber_104 (by decide) (fun c46 => ?_) (fun c46 => ?_)
            ·
              refine V_iconst 0 d_Reader_readNumber_127 (by decide) ?_
              refine V_istore 5 [some (.ref 88), some (.int 3), some (.int 0), some (.int o11), some (.int 0), some (.int 0)] d_Reader_readNumber_128 (by decide) rfl rfl ?_
              refine V_iload d_Reader_readNumber_130 rfl ?_
              refine V_if_ne 140 tc_0 d_Reader_readNumber_132 (by decide) (fun c47 => ?_) (fun c47 => ?_)
              ·
                exact absurd c47 (by decide)
              ·
                refine V_iload d_Reader_readNumber_135 rfl ?_
                refine V_if_eq 155 tc_0 d_Reader_readNumber_137 (by decide) (fun c48 => ?_) (fun c48 => ?_)
                ·
                  refine V_iconst 1 d_Reader_readNumber_155 (by decide) ?_
                  refine V_goto 160 d_Reader_readNumber_156 (by decide) ?_
                  exact V_zret rfl (by decide) d_Reader_readNumber_160 ⟨1, rfl, ⟨hI39, f40, o8, o8Z, o8E, (kn_ne eh38 (kn_call fh15 o8K rfl) (by decide)), o9, o9Z, o9E, (kn_ne eh38 (kn_call fh15 o9K rfl) (by decide)), o10, o10Z, o10E, (kn_ne eh38 (kn_call fh15 o10K rfl) (by decide)), o11, o11Z, o11E, (kn_ne eh38 (kn_call fh15 o11K rfl) (by decide)), o19, o19Z, o19E, (kn_ne eh38 o19K (by decide)), o20, o20Z, o20E, (kn_ne eh38 o20K (by decide)), o11, o11Z, o11E, (kn_put eh38), (by have s1 := num_0 (lo := 0) (hi := 15) p5.2.2.1 p5.2.2.2.2.1 ⟨by (first | decide +kernel | omega), by (first | decide +kernel | omega)⟩; have s2 := x_c4_s (T 3 (x_vl b tZ)); exact Or.inl ⟨rfl, by (first | decide +kernel | omega), by (first | decide +kernel | omega), by (first | decide +kernel | omega), by (first | decide +kernel | omega), by (first | decide +kernel | omega), by (first | decide +kernel | omega), by (first | decide +kernel | omega), by (first | decide +kernel | omega)⟩)⟩⟩
                ·
                  exact absurd c48 (by decide)
            ·
              exact absurd c46 (by decide)
          ·
            refine V_aload_n 0 d_Reader_readNumber_82 rfl rfl ?_
            refine V_getR fa_Reader_29 sk_88 rfl d_Reader_readNumber_83 ?_
            refine V_iload_n 1 d_Reader_readNumber_86 rfl rfl ?_
            refine N_ialdK sk_92 tc_3 (by (first | decide +kernel | omega)) d_Reader_readNumber_87 (kn_ne eh38 (kn_call fh15 (kn_call fh4 zK rfl) rfl) (by decide)) ?_
            refine V_iload_n 3 d_Reader_readNumber_88 rfl rfl ?_
            refine N_ishr d_Reader_readNumber_89 (fun z50 z50Z z50E z50e => ?_)
            refine V_iconst 1 d_Reader_readNumber_90 (by decide) ?_
            refine N_iand d_Reader_readNumber_91 (fun z51 z51Z z51E z51e => ?_)
            have g52 : z51Z = T 3 o11Z := x_bt_of hy2 (by (first | decide +kernel | omega)) (by (first | decide +kernel | omega)) o11E z51E (by assumption) (by assumption)
            have g53 : T 3 o11Z = T 3 (x_vl b tZ) := congrArg (T 3) (by (first | decide +kernel | omega))
            refine V_if_eq 99 z51E d_Reader_readNumber_92 (by decide) (fun c54 => ?_) (fun c54 => ?_)
            ·
              refine V_iconst 0 d_Reader_readNumber_99 (by decide) ?_
              refine V_istore 4 [some (.ref 88), some (.int 3), some (.int 0), some (.int o11), some (.int 0), none] d_Reader_readNumber_100 (by decide) rfl rfl ?_
              refine V_iload_n 2 d_Reader_readNumber_102 rfl rfl ?_
              refine V_iconst 1 d_Reader_readNumber_103 (by decide) ?_
              refine V_icmp_ne 127 tc_0 tc_1 d_Reader_readNumber_104 (by decide) (fun c55 => ?_) (fun c55 => ?_)
              ·
                refine V_iconst 0 d_Reader_readNumber_127 (by decide) ?_
                refine V_istore 5 [some (.ref 88), some (.int 3), some (.int 0), some (.int o11), some (.int 0), some (.int 0)] d_Reader_readNumber_128 (by decide) rfl rfl ?_
                refine V_iload d_Reader_readNumber_130 rfl ?_
                refine V_if_ne 140 tc_0 d_Reader_readNumber_132 (by decide) (fun c56 => ?_) (fun c56 => ?_)
                ·
                  exact absurd c56 (by decide)
                ·
                  refine V_iload d_Reader_readNumber_135 rfl ?_
                  refine V_if_eq 155 tc_0 d_Reader_readNumber_137 (by decide) (fun c57 => ?_) (fun c57 => ?_)
                  ·
                    refine V_iconst 1 d_Reader_readNumber_155 (by decide) ?_
                    refine V_goto 160 d_Reader_readNumber_156 (by decide) ?_
                    exact V_zret rfl (by decide) d_Reader_readNumber_160 ⟨1, rfl, ⟨hI39, f40, o8, o8Z, o8E, (kn_ne eh38 (kn_call fh15 o8K rfl) (by decide)), o9, o9Z, o9E, (kn_ne eh38 (kn_call fh15 o9K rfl) (by decide)), o10, o10Z, o10E, (kn_ne eh38 (kn_call fh15 o10K rfl) (by decide)), o11, o11Z, o11E, (kn_ne eh38 (kn_call fh15 o11K rfl) (by decide)), o19, o19Z, o19E, (kn_ne eh38 o19K (by decide)), o20, o20Z, o20E, (kn_ne eh38 o20K (by decide)), o11, o11Z, o11E, (kn_put eh38), (by have s1 := num_0 (lo := 0) (hi := 15) p5.2.2.1 p5.2.2.2.2.1 ⟨by (first | decide +kernel | omega), by (first | decide +kernel | omega)⟩; have s2 := x_c4_s (T 3 (x_vl b tZ)); exact Or.inl ⟨rfl, by (first | decide +kernel | omega), by (first | decide +kernel | omega), by (first | decide +kernel | omega), by (first | decide +kernel | omega), by (first | decide +kernel | omega), by (first | decide +kernel | omega), by (first | decide +kernel | omega), by (first | decide +kernel | omega)⟩)⟩⟩
                  ·
                    exact absurd c57 (by decide)
              ·
                exact absurd c55 (by decide)
            ·
              refine V_iconst 1 d_Reader_readNumber_95 (by decide) ?_
              refine V_goto 100 d_Reader_readNumber_96 (by decide) ?_
              refine V_istore 4 [some (.ref 88), some (.int 3), some (.int 0), some (.int o11), some (.int 1), none] d_Reader_readNumber_100 (by decide) rfl rfl ?_
              refine V_iload_n 2 d_Reader_readNumber_102 rfl rfl ?_
              refine V_iconst 1 d_Reader_readNumber_103 (by decide) ?_
              refine V_icmp_ne 127 tc_0 tc_1 d_Reader_readNumber_104 (by decide) (fun c58 => ?_) (fun c58 => ?_)
              ·
                refine V_iconst 0 d_Reader_readNumber_127 (by decide) ?_
                refine V_istore 5 [some (.ref 88), some (.int 3), some (.int 0), some (.int o11), some (.int 1), some (.int 0)] d_Reader_readNumber_128 (by decide) rfl rfl ?_
                refine V_iload d_Reader_readNumber_130 rfl ?_
                refine V_if_ne 140 tc_1 d_Reader_readNumber_132 (by decide) (fun c59 => ?_) (fun c59 => ?_)
                ·
                  refine V_aload_n 0 d_Reader_readNumber_140 rfl rfl ?_
                  refine V_iconst 4 d_Reader_readNumber_141 (by decide) ?_
                  refine V_aload_n 0 d_Reader_readNumber_142 rfl rfl ?_
                  refine V_getR fa_Reader_12 sk_88 rfl d_Reader_readNumber_143 ?_
                  refine N_getK fa_Reader_81 sk_89 rfl d_Reader_readNumber_146 (kn_ne eh38 (kn_call fh15 o9K rfl) (by decide)) ?_
                  refine N_callVI [.int 4, .int o9] [] cv_Reader_64 sk_88 rfl d_Reader_readNumber_149 rfl (Nat.le_of_ble_eq_true rfl) (by decide) (by decide) (c_Reader_isRefusedX h38 hI39 4 4 tc_4 o9 o9Z o9E) (fun z60 h61 z60Z z60E p62 => ?_)
                  obtain ⟨hI63, fh61, o65, o65Z, o65E, o65K, o66, o66Z, o66E, o66K, p62⟩ := p62
                  have f64 : fr S_Reader_readNumberX_3_0 h h61 := fr_call f40 fh61 rfl
                  refine V_if_eq 159 z60E d_Reader_readNumber_152 (by decide) (fun c67 => ?_) (fun c67 => ?_)
                  ·
                    refine V_iconst 0 d_Reader_readNumber_159 (by decide) ?_
                    exact V_zret rfl (by decide) d_Reader_readNumber_160 ⟨0, rfl, ⟨hI63, f64, o8, o8Z, o8E, (kn_call fh61 (kn_ne eh38 (kn_call fh15 o8K rfl) (by decide)) rfl), o9, o9Z, o9E, (kn_call fh61 (kn_ne eh38 (kn_call fh15 o9K rfl) (by decide)) rfl), o10, o10Z, o10E, (kn_call fh61 (kn_ne eh38 (kn_call fh15 o10K rfl) (by decide)) rfl), o11, o11Z, o11E, (kn_call fh61 (kn_ne eh38 (kn_call fh15 o11K rfl) (by decide)) rfl), o65, o65Z, o65E, o65K, o66, o66Z, o66E, o66K, o11, o11Z, o11E, (kn_call fh61 (kn_put eh38) rfl), (by have s1 := num_0 (lo := 0) (hi := 15) p5.2.2.1 p5.2.2.2.2.1 ⟨by (first | decide +kernel | omega), by (first | decide +kernel | omega)⟩; have s2 := x_c4_s (T 3 (x_vl b tZ)); exact Or.inr ⟨tc_0, Or.inr ⟨by (first | decide +kernel | omega), by (first | decide +kernel | omega), by (first | decide +kernel | omega)⟩, by (first | decide +kernel | omega)⟩)⟩⟩
                  ·
                    refine V_iconst 1 d_Reader_readNumber_155 (by decide) ?_
                    refine V_goto 160 d_Reader_readNumber_156 (by decide) ?_
                    exact V_zret rfl (by decide) d_Reader_readNumber_160 ⟨1, rfl, ⟨hI63, f64, o8, o8Z, o8E, (kn_call fh61 (kn_ne eh38 (kn_call fh15 o8K rfl) (by decide)) rfl), o9, o9Z, o9E, (kn_call fh61 (kn_ne eh38 (kn_call fh15 o9K rfl) (by decide)) rfl), o10, o10Z, o10E, (kn_call fh61 (kn_ne eh38 (kn_call fh15 o10K rfl) (by decide)) rfl), o11, o11Z, o11E, (kn_call fh61 (kn_ne eh38 (kn_call fh15 o11K rfl) (by decide)) rfl), o65, o65Z, o65E, o65K, o66, o66Z, o66E, o66K, o11, o11Z, o11E, (kn_call fh61 (kn_put eh38) rfl), (by have s1 := num_0 (lo := 0) (hi := 15) p5.2.2.1 p5.2.2.2.2.1 ⟨by (first | decide +kernel | omega), by (first | decide +kernel | omega)⟩; have s2 := x_c4_s (T 3 (x_vl b tZ)); exact Or.inl ⟨rfl, by (first | decide +kernel | omega), by (first | decide +kernel | omega), by (first | decide +kernel | omega), by (first | decide +kernel | omega), by (first | decide +kernel | omega), by (first | decide +kernel | omega), by (first | decide +kernel | omega), by (first | decide +kernel | omega)⟩)⟩⟩
                ·
                  exact absurd c59 (by decide)
              ·
                exact absurd c58 (by decide)
      ·
        refine V_aload_n 0 d_Reader_readNumber_51 rfl rfl ?_
        refine V_iconst 3 d_Reader_readNumber_52 (by decide) ?_
        refine V_aload_n 0 d_Reader_readNumber_53 rfl rfl ?_
        refine V_getR fa_Reader_12 sk_88 rfl d_Reader_readNumber_54 ?_
        refine N_getK fa_Reader_81 sk_89 rfl d_Reader_readNumber_57 (kn_call fh15 o9K rfl) ?_
        refine N_callVI [.int 3, .int o9] [] cv_Reader_64 sk_88 rfl d_Reader_readNumber_60 rfl (Nat.le_of_ble_eq_true rfl) (by decide) (by decide) (c_Reader_isRefusedX h15 hI17 3 3 tc_3 o9 o9Z o9E) (fun z68 h69 z68Z z68E p70 => ?_)
        obtain ⟨hI71, fh69, o73, o73Z, o73E, o73K, o74, o74Z, o74E, o74K, p70⟩ := p70
        have f72 : fr S_Reader_readNumberX_3_0 h h69 := fr_call f18 fh69 rfl
        obtain ⟨z75, z75Z, z75E, z75e⟩ : ∃ (y : Int32) (Y : Int), y.toInt = Y ∧ y = h69.1 91 0 := ⟨_, _, rfl, rfl⟩
        exact V_zret rfl (by rw [z68E]; omega) d_Reader_readNumber_63 ⟨z68, rfl, ⟨hI71, f72, o8, o8Z, o8E, (kn_call fh69 (kn_call fh15 o8K rfl) rfl), o9, o9Z, o9E, (kn_call fh69 (kn_call fh15 o9K rfl) rfl), o10, o10Z, o10E, (kn_call fh69 (kn_call fh15 o10K rfl) rfl), o11, o11Z, o11E, (kn_call fh69 (kn_call fh15 o11K rfl) rfl), o73, o73Z, o73E, o73K, o74, o74Z, o74E, o74K, z75, z75Z, z75E, z75e.symm, (by have s1 := num_3 (lo := 0) (hi := 15) p5.2.2.1 p5.2.2.2.2.1 (by (first | decide +kernel | omega)); exact Or.inr ⟨by (first | decide +kernel | omega), Or.inl ⟨by (first | decide +kernel | omega), by (first | decide +kernel | omega)⟩, by (first | decide +kernel | omega)⟩)⟩⟩
  ·
    have hk9 := num_k 0 15 p5 p16 (by (first | decide +kernel | omega))
    refine V_iconst 0 d_Reader_readNumber_15 (by decide) ?_
    obtain ⟨z76, z76Z, z76E, z76e⟩ : ∃ (y : Int32) (Y : Int), y.toInt = Y ∧ y = h15.1 91 0 := ⟨_, _, rfl, rfl⟩
    exact V_zret rfl (by decide) d_Reader_readNumber_16 ⟨0, rfl, ⟨hI17, f18, o8, o8Z, o8E, (kn_call fh15 o8K rfl), o9, o9Z, o9E, (kn_call fh15 o9K rfl), o10, o10Z, o10E, (kn_call fh15 o10K rfl), o11, o11Z, o11E, (kn_call fh15 o11K rfl), o19, o19Z, o19E, o19K, o20, o20Z, o20E, o20K, z76, z76Z, z76E, z76e.symm, (Or.inr ⟨tc_0, Or.inl ⟨hk9.1, hk9.2.1⟩, hk9.2.2⟩)⟩⟩
def S_Reader_readNumberX_3_1 : List (Nat × Option Nat) := [(89, some 2), (89, some 3), (89, some 4), (89, some 5), (88, some 5), (88, some 6), (91, some 1)]
abbrev q_Reader_readNumberX_3_1 (h : Hp) (b : Int → Int) (T : Nat → Int → Int) (s : Int32) (sZ : Int) (t : Int32) (tZ : Int) (a : Int32) (aZ : Int) (w : Int32) (wZ : Int) : Option Value → Hp → Prop := pInt (fun r h' => Inv h' ∧ fr S_Reader_readNumberX_3_1 h h' ∧ ∃ (k : Int32) (kZ : Int), k.toInt = kZ ∧ h'.1 89 2 = k ∧ ∃ (f : Int32) (fZ : Int), f.toInt = fZ ∧ h'.1 89 3 = f ∧ ∃ (u : Int32) (uZ : Int), u.toInt = uZ ∧ h'.1 89 4 = u ∧ ∃ (v : Int32) (vZ : Int), v.toInt = vZ ∧ h'.1 89 5 = v ∧ ∃ (e : Int32) (eZ : Int), e.toInt = eZ ∧ h'.1 88 6 = e ∧ ∃ (y : Int32) (yZ : Int), y.toInt = yZ ∧ h'.1 88 5 = y ∧ ∃ (x : Int32) (xZ : Int), x.toInt = xZ ∧ h'.1 91 1 = x ∧ (r.toInt = 1 ∧ x_cN b tZ 0 10 = 0 ∧ uZ = x_en b tZ ∧ xZ = x_vl b tZ ∧ eZ = wZ ∧ yZ = aZ ∧ tZ < uZ ∧ uZ ≤ sZ ∨ r.toInt = 0 ∧ (x_cN b tZ 0 10 ≠ 0 ∧ eZ = x_cN b tZ 0 10) ∧ yZ = x_fr b tZ))
set_option maxRecDepth 100000 in
theorem c_Reader_readNumberX_3_1 (h : Hp) (b : Int → Int) (T : Nat → Int → Int) (hI : Inv h) (s : Int32) (sZ : Int) (sE : s.toInt = sZ) (sK : h.1 89 1 = s) (t : Int32) (tZ : Int) (tE : t.toInt = tZ) (tK : h.1 89 4 = t) (a : Int32) (aZ : Int) (aE : a.toInt = aZ) (aK : h.1 88 5 = a) (w : Int32) (wZ : Int) (wE : w.toInt = wZ) (wK : h.1 88 6 = w) (hy0 : TP h 90 sZ b) (hy1 : 0 ≤ tZ ∧ tZ ≤ sZ) : Ct y_Reader_readNumber b_Reader_readNumber 6 (some .boolean) 3 60 [.ref 88, .int 3, .int 1] h (q_Reader_readNumberX_3_1 h b T s sZ t tZ a aZ w wZ) := by
  refine ct_ow R_Reader [some (.ref 88), some (.int 3), some (.int 1), none, none, none] rfl (by decide) rfl (Nat.le_of_ble_eq_true rfl) ?_
  have f0 : fr S_Reader_readNumberX_3_1 h h := fr_rf
  have g1 : 0 ≤ sZ ∧ sZ ≤ 160 := inv_at hI sE sK.symm rfl
  have g2 : 0 ≤ tZ ∧ tZ ≤ 160 := inv_at hI tE tK.symm rfl
  refine V_aload_n 0 d_Reader_readNumber_0 rfl rfl ?_
  refine V_getR fa_Reader_12 sk_88 rfl d_Reader_readNumber_1 ?_
  refine N_callVV [] [] cv_Reader_48 sk_89 rfl d_Reader_readNumber_4 rfl (Nat.le_of_ble_eq_true rfl) (by decide) (by decide) (c_Tape_advanceX h b hI s sZ sE sK t tZ tE tK (TP_fr f0 (fun _ => rfl) hy0) (by (first | decide +kernel | omega))) (fun h4 p5 => ?_)
  obtain ⟨hI6, fh4, o8, o8Z, o8E, o8K, o9, o9Z, o9E, o9K, o10, o10Z, o10E, o10K, o11, o11Z, o11E, o11K, p5⟩ := p5
  have f7 : fr S_Reader_readNumberX_3_1 h h4 := fr_call f0 fh4 rfl
  have g12 : 0 ≤ o9Z ∧ o9Z ≤ 160 := inv_at hI6 o9E o9K.symm rfl
  have g13 : 0 ≤ o10Z ∧ o10Z ≤ 160 := inv_at hI6 o10E o10K.symm rfl
  refine V_aload_n 0 d_Reader_readNumber_7 rfl rfl ?_
  refine V_iconst 2 d_Reader_readNumber_8 (by decide) ?_
  refine N_callVI [.int 2] [] cv_Reader_84 sk_88 rfl d_Reader_readNumber_9 rfl (Nat.le_of_ble_eq_true rfl) (by decide) (by decide) (c_Reader_isKindX h4 hI6 2 2 tc_2 o8 o8Z o8E o8K o9 o9Z o9E o9K a aZ aE (kn_call fh4 aK rfl) w wZ wE (kn_call fh4 wK rfl)) (fun z14 h15 z14Z z14E p16 => ?_)
  obtain ⟨hI17, fh15, o19, o19Z, o19E, o19K, o20, o20Z, o20E, o20K, p16⟩ := p16
  have f18 : fr S_Reader_readNumberX_3_1 h h15 := fr_call f7 fh15 rfl
  refine V_if_ne 17 z14E d_Reader_readNumber_12 (by decide) (fun c21 => ?_) (fun c21 => ?_)
  ·
    replace p16 := kd_y p16 (by (first | decide +kernel | omega))
    replace p5 := adv_2 p5 (by (first | decide +kernel | omega))
    refine V_aload_n 0 d_Reader_readNumber_17 rfl rfl ?_
    refine V_getR fa_Reader_12 sk_88 rfl d_Reader_readNumber_18 ?_
    refine N_getK fa_Reader_122 sk_89 rfl d_Reader_readNumber_21 (kn_call fh15 o11K rfl) ?_
    refine V_istore_n 3 [some (.ref 88), some (.int 3), some (.int 1), some (.int o11), none, none] d_Reader_readNumber_24 rfl (by decide) rfl rfl ?_
    refine V_iload_n 3 d_Reader_readNumber_25 rfl rfl ?_
    refine V_gets (v := .ref 133) zL ws_Reader_125 d_Reader_readNumber_26 ?_
    refine V_iconst 3 d_Reader_readNumber_29 (by decide) ?_
    refine V_iload_n 1 d_Reader_readNumber_30 rfl rfl ?_
    refine V_imulw d_Reader_readNumber_31 (fun z22 z22e => ?_)
    obtain rfl : z22 = 9 := z22e.trans (by decide)
    refine V_iload_n 2 d_Reader_readNumber_32 rfl rfl ?_
    refine V_iaddw d_Reader_readNumber_33 (fun z23 z23e => ?_)
    obtain rfl : z23 = 10 := z23e.trans (by decide)
    refine V_tald roL tc_10 (by decide) d_Reader_readNumber_34 (fun z24 z24Z z24E z24e => ?_)
    obtain rfl : z24 = 0 := z24e.trans rfl
    refine V_icmp_lt 51 o11E tc_0 d_Reader_readNumber_35 (by decide) (fun c25 => ?_) (fun c25 => ?_)
    ·
      refine V_aload_n 0 d_Reader_readNumber_51 rfl rfl ?_
      refine V_iconst 3 d_Reader_readNumber_52 (by decide) ?_
      refine V_aload_n 0 d_Reader_readNumber_53 rfl rfl ?_
      refine V_getR fa_Reader_12 sk_88 rfl d_Reader_readNumber_54 ?_
      refine N_getK fa_Reader_81 sk_89 rfl d_Reader_readNumber_57 (kn_call fh15 o9K rfl) ?_
      refine N_callVI [.int 3, .int o9] [] cv_Reader_64 sk_88 rfl d_Reader_readNumber_60 rfl (Nat.le_of_ble_eq_true rfl) (by decide) (by decide) (c_Reader_isRefusedX h15 hI17 3 3 tc_3 o9 o9Z o9E) (fun z26 h27 z26Z z26E p28 => ?_)
      obtain ⟨hI29, fh27, o31, o31Z, o31E, o31K, o32, o32Z, o32E, o32K, p28⟩ := p28
      have f30 : fr S_Reader_readNumberX_3_1 h h27 := fr_call f18 fh27 rfl
      obtain ⟨z33, z33Z, z33E, z33e⟩ : ∃ (y : Int32) (Y : Int), y.toInt = Y ∧ y = h27.1 91 1 := ⟨_, _, rfl, rfl⟩
      exact V_zret rfl (by rw [z26E]; omega) d_Reader_readNumber_63 ⟨z26, rfl, ⟨hI29, f30, o8, o8Z, o8E, (kn_call fh27 (kn_call fh15 o8K rfl) rfl), o9, o9Z, o9E, (kn_call fh27 (kn_call fh15 o9K rfl) rfl), o10, o10Z, o10E, (kn_call fh27 (kn_call fh15 o10K rfl) rfl), o11, o11Z, o11E, (kn_call fh27 (kn_call fh15 o11K rfl) rfl), o31, o31Z, o31E, o31K, o32, o32Z, o32E, o32K, z33, z33Z, z33E, z33e.symm, (by have s1 := num_3 (lo := 0) (hi := 10) p5.2.2.1 p5.2.2.2.2.1 (by (first | decide +kernel | omega)); exact Or.inr ⟨by (first | decide +kernel | omega), ⟨by (first | decide +kernel | omega), by (first | decide +kernel | omega)⟩, by (first | decide +kernel | omega)⟩)⟩⟩
    ·
      refine V_iload_n 3 d_Reader_readNumber_38 rfl rfl ?_
      refine V_gets (v := .ref 134) zM ws_Reader_128 d_Reader_readNumber_39 ?_
      refine V_iconst 3 d_Reader_readNumber_42 (by decide) ?_
      refine V_iload_n 1 d_Reader_readNumber_43 rfl rfl ?_
      refine V_imulw d_Reader_readNumber_44 (fun z34 z34e => ?_)
      obtain rfl : z34 = 9 := z34e.trans (by decide)
      refine V_iload_n 2 d_Reader_readNumber_45 rfl rfl ?_
      refine V_iaddw d_Reader_readNumber_46 (fun z35 z35e => ?_)
      obtain rfl : z35 = 10 := z35e.trans (by decide)
      refine V_tald roM tc_10 (by decide) d_Reader_readNumber_47 (fun z36 z36Z z36E z36e => ?_)
      obtain rfl : z36 = 10 := z36e.trans rfl
      refine V_icmp_le 64 o11E tc_10 d_Reader_readNumber_48 (by decide) (fun c37 => ?_) (fun c37 => ?_)
      ·
        refine V_aload_n 0 d_Reader_readNumber_64 rfl rfl ?_
        refine V_getR fa_Reader_25 sk_88 rfl d_Reader_readNumber_65 ?_
        refine V_iload_n 2 d_Reader_readNumber_68 rfl rfl ?_
        refine V_iload_n 3 d_Reader_readNumber_69 rfl rfl ?_
        refine N_iast sk_91 tc_1 (by (first | decide +kernel | omega)) d_Reader_readNumber_70 (fun h38 eh38 => ?_)
        have hI39 : Inv h38 := inv_full hI17 eh38 rfl
        have f40 : fr S_Reader_readNumberX_3_1 h h38 := fr_put f18 eh38 rfl
        refine V_iload_n 2 d_Reader_readNumber_71 rfl rfl ?_
        refine V_if_ne 99 tc_1 d_Reader_readNumber_72 (by decide) (fun c41 => ?_) (fun c41 => ?_)
        ·
          refine V_iconst 0 d_Reader_readNumber_99 (by decide) ?_
          refine V_istore 4 [some (.ref 88), some (.int 3), some (.int 1), some (.int o11), some (.int 0), none] d_Reader_readNumber_100 (by decide) rfl rfl ?_
          refine V_iload_n 2 d_Reader_readNumber_102 rfl rfl ?_
          refine V_iconst 1 d_Reader_readNumber_103 (by decide) ?_
          refine V_icmp_ne 127 tc_1 tc_1 d_Reader_readNumber_104 (by decide) (fun c42 => ?_) (fun c42 => ?_)
          ·
            exact absurd c42 (by decide)
          ·
            refine V_iload_n 1 d_Reader_readNumber_107 rfl rfl ?_
            refine V_bipush 9 d_Reader_readNumber_108 (by decide) ?_
            refine V_icmp_ne 127 tc_3 tc_9 d_Reader_readNumber_110 (by decide) (fun c43 => ?_) (fun c43 => ?_)
            ·
              refine V_iconst 0 d_Reader_readNumber_127 (by decide) ?_
              refine V_istore 5 [some (.ref 88), some (.int 3), some (.int 1), some (.int o11), some (.int 0), some (.int 0)] d_Reader_readNumber_128 (by decide) rfl rfl ?_
              refine V_iload d_Reader_readNumber_130 rfl ?_
              refine V_if_ne 140 tc_0 d_Reader_readNumber_132 (by decide) (fun c44 => ?_) (fun c44 => ?_)
              ·
                exact absurd c44 (by decide)
              ·
                refine V_iload d_Reader_readNumber_135 rfl ?_
                refine V_if_eq 155 tc_0 d_Reader_readNumber_137 (by decide) (fun c45 => ?_) (fun c45 => ?_)
                ·
                  refine V_iconst 1 d_Reader_readNumber_155 (by decide) ?_
                  refine V_goto 160 d_Reader_readNumber_156 (by decide) ?_
                  exact V_zret rfl (by decide) d_Reader_readNumber_160 ⟨1, rfl, ⟨hI39, f40, o8, o8Z, o8E, (kn_ne eh38 (kn_call fh15 o8K rfl) (by decide)), o9, o9Z, o9E, (kn_ne eh38 (kn_call fh15 o9K rfl) (by decide)), o10, o10Z, o10E, (kn_ne eh38 (kn_call fh15 o10K rfl) (by decide)), o11, o11Z, o11E, (kn_ne eh38 (kn_call fh15 o11K rfl) (by decide)), o19, o19Z, o19E, (kn_ne eh38 o19K (by decide)), o20, o20Z, o20E, (kn_ne eh38 o20K (by decide)), o11, o11Z, o11E, (kn_put eh38), (by have s1 := num_0 (lo := 0) (hi := 10) p5.2.2.1 p5.2.2.2.2.1 ⟨by (first | decide +kernel | omega), by (first | decide +kernel | omega)⟩; exact Or.inl ⟨rfl, by (first | decide +kernel | omega), by (first | decide +kernel | omega), by (first | decide +kernel | omega), by (first | decide +kernel | omega), by (first | decide +kernel | omega), by (first | decide +kernel | omega), by (first | decide +kernel | omega)⟩)⟩⟩
                ·
                  exact absurd c45 (by decide)
            ·
              exact absurd c43 (by decide)
        ·
          exact absurd c41 (by decide)
      ·
        refine V_aload_n 0 d_Reader_readNumber_51 rfl rfl ?_
        refine V_iconst 3 d_Reader_readNumber_52 (by decide) ?_
        refine V_aload_n 0 d_Reader_readNumber_53 rfl rfl ?_
        refine V_getR fa_Reader_12 sk_88 rfl d_Reader_readNumber_54 ?_
        refine N_getK fa_Reader_81 sk_89 rfl d_Reader_readNumber_57 (kn_call fh15 o9K rfl) ?_
        refine N_callVI [.int 3, .int o9] [] cv_Reader_64 sk_88 rfl d_Reader_readNumber_60 rfl (Nat.le_of_ble_eq_true rfl) (by decide) (by decide) (c_Reader_isRefusedX h15 hI17 3 3 tc_3 o9 o9Z o9E) (fun z46 h47 z46Z z46E p48 => ?_)
        obtain ⟨hI49, fh47, o51, o51Z, o51E, o51K, o52, o52Z, o52E, o52K, p48⟩ := p48
        have f50 : fr S_Reader_readNumberX_3_1 h h47 := fr_call f18 fh47 rfl
        obtain ⟨z53, z53Z, z53E, z53e⟩ : ∃ (y : Int32) (Y : Int), y.toInt = Y ∧ y = h47.1 91 1 := ⟨_, _, rfl, rfl⟩
        exact V_zret rfl (by rw [z46E]; omega) d_Reader_readNumber_63 ⟨z46, rfl, ⟨hI49, f50, o8, o8Z, o8E, (kn_call fh47 (kn_call fh15 o8K rfl) rfl), o9, o9Z, o9E, (kn_call fh47 (kn_call fh15 o9K rfl) rfl), o10, o10Z, o10E, (kn_call fh47 (kn_call fh15 o10K rfl) rfl), o11, o11Z, o11E, (kn_call fh47 (kn_call fh15 o11K rfl) rfl), o51, o51Z, o51E, o51K, o52, o52Z, o52E, o52K, z53, z53Z, z53E, z53e.symm, (by have s1 := num_3 (lo := 0) (hi := 10) p5.2.2.1 p5.2.2.2.2.1 (by (first | decide +kernel | omega)); exact Or.inr ⟨by (first | decide +kernel | omega), ⟨by (first | decide +kernel | omega), by (first | decide +kernel | omega)⟩, by (first | decide +kernel | omega)⟩)⟩⟩
  ·
    have hk9 := num_k 0 10 p5 p16 (by (first | decide +kernel | omega))
    refine V_iconst 0 d_Reader_readNumber_15 (by decide) ?_
    obtain ⟨z54, z54Z, z54E, z54e⟩ : ∃ (y : Int32) (Y : Int), y.toInt = Y ∧ y = h15.1 91 1 := ⟨_, _, rfl, rfl⟩
    exact V_zret rfl (by decide) d_Reader_readNumber_16 ⟨0, rfl, ⟨hI17, f18, o8, o8Z, o8E, (kn_call fh15 o8K rfl), o9, o9Z, o9E, (kn_call fh15 o9K rfl), o10, o10Z, o10E, (kn_call fh15 o10K rfl), o11, o11Z, o11E, (kn_call fh15 o11K rfl), o19, o19Z, o19E, o19K, o20, o20Z, o20E, o20K, z54, z54Z, z54E, z54e.symm, (Or.inr ⟨tc_0, ⟨hk9.1, hk9.2.1⟩, hk9.2.2⟩)⟩⟩
def S_Reader_readNumberX_4_0 : List (Nat × Option Nat) := [(89, some 2), (89, some 3), (89, some 4), (89, some 5), (88, some 5), (88, some 6), (91, some 0)]
abbrev q_Reader_readNumberX_4_0 (h : Hp) (b : Int → Int) (T : Nat → Int → Int) (s : Int32) (sZ : Int) (t : Int32) (tZ : Int) (a : Int32) (aZ : Int) (w : Int32) (wZ : Int) (z : Int32) (zZ : Int) : Option Value → Hp → Prop := pInt (fun r h' => Inv h' ∧ fr S_Reader_readNumberX_4_0 h h' ∧ ∃ (k : Int32) (kZ : Int), k.toInt = kZ ∧ h'.1 89 2 = k ∧ ∃ (f : Int32) (fZ : Int), f.toInt = fZ ∧ h'.1 89 3 = f ∧ ∃ (u : Int32) (uZ : Int), u.toInt = uZ ∧ h'.1 89 4 = u ∧ ∃ (v : Int32) (vZ : Int), v.toInt = vZ ∧ h'.1 89 5 = v ∧ ∃ (e : Int32) (eZ : Int), e.toInt = eZ ∧ h'.1 88 6 = e ∧ ∃ (y : Int32) (yZ : Int), y.toInt = yZ ∧ h'.1 88 5 = y ∧ ∃ (x : Int32) (xZ : Int), x.toInt = xZ ∧ h'.1 91 0 = x ∧ (r.toInt = 1 ∧ x_cN b tZ 0 15 = 0 ∧ x_c4 (T 4 (x_vl b tZ)) = 0 ∧ uZ = x_en b tZ ∧ xZ = x_vl b tZ ∧ eZ = wZ ∧ yZ = aZ ∧ tZ < uZ ∧ uZ ≤ sZ ∨ r.toInt = 0 ∧ (x_cN b tZ 0 15 ≠ 0 ∧ eZ = x_cN b tZ 0 15 ∨ x_cN b tZ 0 15 = 0 ∧ x_c4 (T 4 (x_vl b tZ)) ≠ 0 ∧ eZ = x_c4 (T 4 (x_vl b tZ))) ∧ yZ = x_fr b tZ))
set_option maxRecDepth 100000 in
theorem c_Reader_readNumberX_4_0 (h : Hp) (b : Int → Int) (T : Nat → Int → Int) (hI : Inv h) (s : Int32) (sZ : Int) (sE : s.toInt = sZ) (sK : h.1 89 1 = s) (t : Int32) (tZ : Int) (tE : t.toInt = tZ) (tK : h.1 89 4 = t) (a : Int32) (aZ : Int) (aE : a.toInt = aZ) (aK : h.1 88 5 = a) (w : Int32) (wZ : Int) (wE : w.toInt = wZ) (wK : h.1 88 6 = w) (z : Int32) (zZ : Int) (zE : z.toInt = zZ) (zK : h.1 92 4 = z) (hy0 : TP h 90 sZ b) (hy1 : 0 ≤ tZ ∧ tZ ≤ sZ) (hy2 : x_TB z (T 4)) : Ct y_Reader_readNumber b_Reader_readNumber 6 (some .boolean) 3 60 [.ref 88, .int 4, .int 0] h (q_Reader_readNumberX_4_0 h b T s sZ t tZ a aZ w wZ z zZ) := by
  refine ct_ow R_Reader [some (.ref 88), some (.int 4), some (.int 0), none, none, none] rfl (by decide) rfl (Nat.le_of_ble_eq_true rfl) ?_
  have f0 : fr S_Reader_readNumberX_4_0 h h := fr_rf
  have g1 : 0 ≤ sZ ∧ sZ ≤ 160 := inv_at hI sE sK.symm rfl
  have g2 : 0 ≤ tZ ∧ tZ ≤ 160 := inv_at hI tE tK.symm rfl
  refine V_aload_n 0 d_Reader_readNumber_0 rfl rfl ?_
  refine V_getR fa_Reader_12 sk_88 rfl d_Reader_readNumber_1 ?_
  refine N_callVV [] [] cv_Reader_48 sk_89 rfl d_Reader_readNumber_4 rfl (Nat.le_of_ble_eq_true rfl) (by decide) (by decide) (c_Tape_advanceX h b hI s sZ sE sK t tZ tE tK (TP_fr f0 (fun _ => rfl) hy0) (by (first | decide +kernel | omega))) (fun h4 p5 => ?_)
  obtain ⟨hI6, fh4, o8, o8Z, o8E, o8K, o9, o9Z, o9E, o9K, o10, o10Z, o10E, o10K, o11, o11Z, o11E, o11K, p5⟩ := p5
  have f7 : fr S_Reader_readNumberX_4_0 h h4 := fr_call f0 fh4 rfl
  have g12 : 0 ≤ o9Z ∧ o9Z ≤ 160 := inv_at hI6 o9E o9K.symm rfl
  have g13 : 0 ≤ o10Z ∧ o10Z ≤ 160 := inv_at hI6 o10E o10K.symm rfl
  refine V_aload_n 0 d_Reader_readNumber_7 rfl rfl ?_
  refine V_iconst 2 d_Reader_readNumber_8 (by decide) ?_
  refine N_callVI [.int 2] [] cv_Reader_84 sk_88 rfl d_Reader_readNumber_9 rfl (Nat.le_of_ble_eq_true rfl) (by decide) (by decide) (c_Reader_isKindX h4 hI6 2 2 tc_2 o8 o8Z o8E o8K o9 o9Z o9E o9K a aZ aE (kn_call fh4 aK rfl) w wZ wE (kn_call fh4 wK rfl)) (fun z14 h15 z14Z z14E p16 => ?_)
  obtain ⟨hI17, fh15, o19, o19Z, o19E, o19K, o20, o20Z, o20E, o20K, p16⟩ := p16
  have f18 : fr S_Reader_readNumberX_4_0 h h15 := fr_call f7 fh15 rfl
  refine V_if_ne 17 z14E d_Reader_readNumber_12 (by decide) (fun c21 => ?_) (fun c21 => ?_)
  ·
    replace p16 := kd_y p16 (by (first | decide +kernel | omega))
    replace p5 := adv_2 p5 (by (first | decide +kernel | omega))
    refine V_aload_n 0 d_Reader_readNumber_17 rfl rfl ?_
    refine V_getR fa_Reader_12 sk_88 rfl d_Reader_readNumber_18 ?_
    refine N_getK fa_Reader_122 sk_89 rfl d_Reader_readNumber_21 (kn_call fh15 o11K rfl) ?_
    refine V_istore_n 3 [some (.ref 88), some (.int 4), some (.int 0), some (.int o11), none, none] d_Reader_readNumber_24 rfl (by decide) rfl rfl ?_
    refine V_iload_n 3 d_Reader_readNumber_25 rfl rfl ?_
    refine V_gets (v := .ref 133) zL ws_Reader_125 d_Reader_readNumber_26 ?_
    refine V_iconst 3 d_Reader_readNumber_29 (by decide) ?_
    refine V_iload_n 1 d_Reader_readNumber_30 rfl rfl ?_
    refine V_imulw d_Reader_readNumber_31 (fun z22 z22e => ?_)
    obtain rfl : z22 = 12 := z22e.trans (by decide)
    refine V_iload_n 2 d_Reader_readNumber_32 rfl rfl ?_
    refine V_iaddw d_Reader_readNumber_33 (fun z23 z23e => ?_)
    obtain rfl : z23 = 12 := z23e.trans (by decide)
    refine V_tald roL tc_12 (by decide) d_Reader_readNumber_34 (fun z24 z24Z z24E z24e => ?_)
    obtain rfl : z24 = 0 := z24e.trans rfl
    refine V_icmp_lt 51 o11E tc_0 d_Reader_readNumber_35 (by decide) (fun c25 => ?_) (fun c25 => ?_)
    ·
      refine V_aload_n 0 d_Reader_readNumber_51 rfl rfl ?_
      refine V_iconst 3 d_Reader_readNumber_52 (by decide) ?_
      refine V_aload_n 0 d_Reader_readNumber_53 rfl rfl ?_
      refine V_getR fa_Reader_12 sk_88 rfl d_Reader_readNumber_54 ?_
      refine N_getK fa_Reader_81 sk_89 rfl d_Reader_readNumber_57 (kn_call fh15 o9K rfl) ?_
      refine N_callVI [.int 3, .int o9] [] cv_Reader_64 sk_88 rfl d_Reader_readNumber_60 rfl (Nat.le_of_ble_eq_true rfl) (by decide) (by decide) (c_Reader_isRefusedX h15 hI17 3 3 tc_3 o9 o9Z o9E) (fun z26 h27 z26Z z26E p28 => ?_)
      obtain ⟨hI29, fh27, o31, o31Z, o31E, o31K, o32, o32Z, o32E, o32K, p28⟩ := p28
      have f30 : fr S_Reader_readNumberX_4_0 h h27 := fr_call f18 fh27 rfl
      obtain ⟨z33, z33Z, z33E, z33e⟩ : ∃ (y : Int32) (Y : Int), y.toInt = Y ∧ y = h27.1 91 0 := ⟨_, _, rfl, rfl⟩
      exact V_zret rfl (by rw [z26E]; omega) d_Reader_readNumber_63 ⟨z26, rfl, ⟨hI29, f30, o8, o8Z, o8E, (kn_call fh27 (kn_call fh15 o8K rfl) rfl), o9, o9Z, o9E, (kn_call fh27 (kn_call fh15 o9K rfl) rfl), o10, o10Z, o10E, (kn_call fh27 (kn_call fh15 o10K rfl) rfl), o11, o11Z, o11E, (kn_call fh27 (kn_call fh15 o11K rfl) rfl), o31, o31Z, o31E, o31K, o32, o32Z, o32E, o32K, z33, z33Z, z33E, z33e.symm, (by have s1 := num_3 (lo := 0) (hi := 15) p5.2.2.1 p5.2.2.2.2.1 (by (first | decide +kernel | omega)); exact Or.inr ⟨by (first | decide +kernel | omega), Or.inl ⟨by (first | decide +kernel | omega), by (first | decide +kernel | omega)⟩, by (first | decide +kernel | omega)⟩)⟩⟩
    ·
      refine V_iload_n 3 d_Reader_readNumber_38 rfl rfl ?_
      refine V_gets (v := .ref 134) zM ws_Reader_128 d_Reader_readNumber_39 ?_
      refine V_iconst 3 d_Reader_readNumber_42 (by decide) ?_
      refine V_iload_n 1 d_Reader_readNumber_43 rfl rfl ?_
      refine V_imulw d_Reader_readNumber_44 (fun z34 z34e => ?_)
      obtain rfl : z34 = 12 := z34e.trans (by decide)
      refine V_iload_n 2 d_Reader_readNumber_45 rfl rfl ?_
      refine V_iaddw d_Reader_readNumber_46 (fun z35 z35e => ?_)
      obtain rfl : z35 = 12 := z35e.trans (by decide)
      refine V_tald roM tc_12 (by decide) d_Reader_readNumber_47 (fun z36 z36Z z36E z36e => ?_)
      obtain rfl : z36 = 15 := z36e.trans rfl
      refine V_icmp_le 64 o11E tc_15 d_Reader_readNumber_48 (by decide) (fun c37 => ?_) (fun c37 => ?_)
      ·
        refine V_aload_n 0 d_Reader_readNumber_64 rfl rfl ?_
        refine V_getR fa_Reader_25 sk_88 rfl d_Reader_readNumber_65 ?_
        refine V_iload_n 2 d_Reader_readNumber_68 rfl rfl ?_
        refine V_iload_n 3 d_Reader_readNumber_69 rfl rfl ?_
        refine N_iast sk_91 tc_0 (by (first | decide +kernel | omega)) d_Reader_readNumber_70 (fun h38 eh38 => ?_)
        have hI39 : Inv h38 := inv_full hI17 eh38 rfl
        have f40 : fr S_Reader_readNumberX_4_0 h h38 := fr_put f18 eh38 rfl
        refine V_iload_n 2 d_Reader_readNumber_71 rfl rfl ?_
        refine V_if_ne 99 tc_0 d_Reader_readNumber_72 (by decide) (fun c41 => ?_) (fun c41 => ?_)
        ·
          exact absurd c41 (by decide)
        ·
          refine V_iload_n 1 d_Reader_readNumber_75 rfl rfl ?_
          refine N_callSI [.int 4] [] cs_Reader_131 d_Reader_readNumber_76 rfl (Nat.le_of_ble_eq_true rfl) (by decide) (by decide) (c_Reader_isOfOneX_4 h38) (fun z42 h43 z42Z z42E p44 => ?_)
          obtain ⟨eh43, p44⟩ := p44
          subst eh43
          refine V_if_eq 99 z42E d_Reader_readNumber_79 (by decide) (fun c45 => ?_) (fun c45 => ?_)
          ·
            refine V_iconst 0 d_Reader_readNumber_99 (by decide) ?_
            refine V_istore 4 [some (.ref 88), some (.int 4), some (.int 0), some (.int o11), some (.int 0), none] d_Reader_readNumber_100 (by decide) rfl rfl ?_
            refine V_iload_n 2 d_Reader_readNumber_102 rfl rfl ?_
            refine V_iconst 1 d_Reader_readNumber_103 (by decide) ?_
            refine V_icmp_ne 127 tc_0 tc_1 d_Reader_readNumber_104 (by decide) (fun c46 => ?_) (fun c46 => ?_)
            ·
              refine V_iconst 0 d_Reader_readNumber_127 (by decide) ?_
              refine V_istore 5 [some (.ref 88), some (.int 4), some (.int 0), some (.int o11), some (.int 0), some (.int 0)] d_Reader_readNumber_128 (by decide) rfl rfl ?_
              refine V_iload d_Reader_readNumber_130 rfl ?_
              refine V_if_ne 140 tc_0 d_Reader_readNumber_132 (by decide) (fun c47 => ?_) (fun c47 => ?_)
              ·
                exact absurd c47 (by decide)
              ·
                refine V_iload d_Reader_readNumber_135 rfl ?_
                refine V_if_eq 155 tc_0 d_Reader_readNumber_137 (by decide) (fun c48 => ?_) (fun c48 => ?_)
                ·
                  refine V_iconst 1 d_Reader_readNumber_155 (by decide) ?_
                  refine V_goto 160 d_Reader_readNumber_156 (by decide) ?_
                  exact V_zret rfl (by decide) d_Reader_readNumber_160 ⟨1, rfl, ⟨hI39, f40, o8, o8Z, o8E, (kn_ne eh38 (kn_call fh15 o8K rfl) (by decide)), o9, o9Z, o9E, (kn_ne eh38 (kn_call fh15 o9K rfl) (by decide)), o10, o10Z, o10E, (kn_ne eh38 (kn_call fh15 o10K rfl) (by decide)), o11, o11Z, o11E, (kn_ne eh38 (kn_call fh15 o11K rfl) (by decide)), o19, o19Z, o19E, (kn_ne eh38 o19K (by decide)), o20, o20Z, o20E, (kn_ne eh38 o20K (by decide)), o11, o11Z, o11E, (kn_put eh38), (by have s1 := num_0 (lo := 0) (hi := 15) p5.2.2.1 p5.2.2.2.2.1 ⟨by (first | decide +kernel | omega), by (first | decide +kernel | omega)⟩; have s2 := x_c4_s (T 4 (x_vl b tZ)); exact Or.inl ⟨rfl, by (first | decide +kernel | omega), by (first | decide +kernel | omega), by (first | decide +kernel | omega), by (first | decide +kernel | omega), by (first | decide +kernel | omega), by (first | decide +kernel | omega), by (first | decide +kernel | omega), by (first | decide +kernel | omega)⟩)⟩⟩
                ·
                  exact absurd c48 (by decide)
            ·
              exact absurd c46 (by decide)
          ·
            refine V_aload_n 0 d_Reader_readNumber_82 rfl rfl ?_
            refine V_getR fa_Reader_29 sk_88 rfl d_Reader_readNumber_83 ?_
            refine V_iload_n 1 d_Reader_readNumber_86 rfl rfl ?_
            refine N_ialdK sk_92 tc_4 (by (first | decide +kernel | omega)) d_Reader_readNumber_87 (kn_ne eh38 (kn_call fh15 (kn_call fh4 zK rfl) rfl) (by decide)) ?_
            refine V_iload_n 3 d_Reader_readNumber_88 rfl rfl ?_
            refine N_ishr d_Reader_readNumber_89 (fun z50 z50Z z50E z50e => ?_)
            refine V_iconst 1 d_Reader_readNumber_90 (by decide) ?_
            refine N_iand d_Reader_readNumber_91 (fun z51 z51Z z51E z51e => ?_)
            have g52 : z51Z = T 4 o11Z := x_bt_of hy2 (by (first | decide +kernel | omega)) (by (first | decide +kernel | omega)) o11E z51E (by assumption) (by assumption)
            have g53 : T 4 o11Z = T 4 (x_vl b tZ) := congrArg (T 4) (by (first | decide +kernel | omega))
            refine V_if_eq 99 z51E d_Reader_readNumber_92 (by decide) (fun c54 => ?_) (fun c54 => ?_)
            ·
              refine V_iconst 0 d_Reader_readNumber_99 (by decide) ?_
              refine V_istore 4 [some (.ref 88), some (.int 4), some (.int 0), some (.int o11), some (.int 0), none] d_Reader_readNumber_100 (by decide) rfl rfl ?_
              refine V_iload_n 2 d_Reader_readNumber_102 rfl rfl ?_
              refine V_iconst 1 d_Reader_readNumber_103 (by decide) ?_
              refine V_icmp_ne 127 tc_0 tc_1 d_Reader_readNumber_104 (by decide) (fun c55 => ?_) (fun c55 => ?_)
              ·
                refine V_iconst 0 d_Reader_readNumber_127 (by decide) ?_
                refine V_istore 5 [some (.ref 88), some (.int 4), some (.int 0), some (.int o11), some (.int 0), some (.int 0)] d_Reader_readNumber_128 (by decide) rfl rfl ?_
                refine V_iload d_Reader_readNumber_130 rfl ?_
                refine V_if_ne 140 tc_0 d_Reader_readNumber_132 (by decide) (fun c56 => ?_) (fun c56 => ?_)
                ·
                  exact absurd c56 (by decide)
                ·
                  refine V_iload d_Reader_readNumber_135 rfl ?_
                  refine V_if_eq 155 tc_0 d_Reader_readNumber_137 (by decide) (fun c57 => ?_) (fun c57 => ?_)
                  ·
                    refine V_iconst 1 d_Reader_readNumber_155 (by decide) ?_
                    refine V_goto 160 d_Reader_readNumber_156 (by decide) ?_
                    exact V_zret rfl (by decide) d_Reader_readNumber_160 ⟨1, rfl, ⟨hI39, f40, o8, o8Z, o8E, (kn_ne eh38 (kn_call fh15 o8K rfl) (by decide)), o9, o9Z, o9E, (kn_ne eh38 (kn_call fh15 o9K rfl) (by decide)), o10, o10Z, o10E, (kn_ne eh38 (kn_call fh15 o10K rfl) (by decide)), o11, o11Z, o11E, (kn_ne eh38 (kn_call fh15 o11K rfl) (by decide)), o19, o19Z, o19E, (kn_ne eh38 o19K (by decide)), o20, o20Z, o20E, (kn_ne eh38 o20K (by decide)), o11, o11Z, o11E, (kn_put eh38), (by have s1 := num_0 (lo := 0) (hi := 15) p5.2.2.1 p5.2.2.2.2.1 ⟨by (first | decide +kernel | omega), by (first | decide +kernel | omega)⟩; have s2 := x_c4_s (T 4 (x_vl b tZ)); exact Or.inl ⟨rfl, by (first | decide +kernel | omega), by (first | decide +kernel | omega), by (first | decide +kernel | omega), by (first | decide +kernel | omega), by (first | decide +kernel | omega), by (first | decide +kernel | omega), by (first | decide +kernel | omega), by (first | decide +kernel | omega)⟩)⟩⟩
                  ·
                    exact absurd c57 (by decide)
              ·
                exact absurd c55 (by decide)
            ·
              refine V_iconst 1 d_Reader_readNumber_95 (by decide) ?_
              refine V_goto 100 d_Reader_readNumber_96 (by decide) ?_
              refine V_istore 4 [some (.ref 88), some (.int 4), some (.int 0), some (.int o11), some (.int 1), none] d_Reader_readNumber_100 (by decide) rfl rfl ?_
              refine V_iload_n 2 d_Reader_readNumber_102 rfl rfl ?_
              refine V_iconst 1 d_Reader_readNumber_103 (by decide) ?_
              refine V_icmp_ne 127 tc_0 tc_1 d_Reader_readNumber_104 (by decide) (fun c58 => ?_) (fun c58 => ?_)
              ·
                refine V_iconst 0 d_Reader_readNumber_127 (by decide) ?_
                refine V_istore 5 [some (.ref 88), some (.int 4), some (.int 0), some (.int o11), some (.int 1), some (.int 0)] d_Reader_readNumber_128 (by decide) rfl rfl ?_
                refine V_iload d_Reader_readNumber_130 rfl ?_
                refine V_if_ne 140 tc_1 d_Reader_readNumber_132 (by decide) (fun c59 => ?_) (fun c59 => ?_)
                ·
                  refine V_aload_n 0 d_Reader_readNumber_140 rfl rfl ?_
                  refine V_iconst 4 d_Reader_readNumber_141 (by decide) ?_
                  refine V_aload_n 0 d_Reader_readNumber_142 rfl rfl ?_
                  refine V_getR fa_Reader_12 sk_88 rfl d_Reader_readNumber_143 ?_
                  refine N_getK fa_Reader_81 sk_89 rfl d_Reader_readNumber_146 (kn_ne eh38 (kn_call fh15 o9K rfl) (by decide)) ?_
                  refine N_callVI [.int 4, .int o9] [] cv_Reader_64 sk_88 rfl d_Reader_readNumber_149 rfl (Nat.le_of_ble_eq_true rfl) (by decide) (by decide) (c_Reader_isRefusedX h38 hI39 4 4 tc_4 o9 o9Z o9E) (fun z60 h61 z60Z z60E p62 => ?_)
                  obtain ⟨hI63, fh61, o65, o65Z, o65E, o65K, o66, o66Z, o66E, o66K, p62⟩ := p62
                  have f64 : fr S_Reader_readNumberX_4_0 h h61 := fr_call f40 fh61 rfl
                  refine V_if_eq 159 z60E d_Reader_readNumber_152 (by decide) (fun c67 => ?_) (fun c67 => ?_)
                  ·
                    refine V_iconst 0 d_Reader_readNumber_159 (by decide) ?_
                    exact V_zret rfl (by decide) d_Reader_readNumber_160 ⟨0, rfl, ⟨hI63, f64, o8, o8Z, o8E, (kn_call fh61 (kn_ne eh38 (kn_call fh15 o8K rfl) (by decide)) rfl), o9, o9Z, o9E, (kn_call fh61 (kn_ne eh38 (kn_call fh15 o9K rfl) (by decide)) rfl), o10, o10Z, o10E, (kn_call fh61 (kn_ne eh38 (kn_call fh15 o10K rfl) (by decide)) rfl), o11, o11Z, o11E, (kn_call fh61 (kn_ne eh38 (kn_call fh15 o11K rfl) (by decide)) rfl), o65, o65Z, o65E, o65K, o66, o66Z, o66E, o66K, o11, o11Z, o11E, (kn_call fh61 (kn_put eh38) rfl), (by have s1 := num_0 (lo := 0) (hi := 15) p5.2.2.1 p5.2.2.2.2.1 ⟨by (first | decide +kernel | omega), by (first | decide +kernel | omega)⟩; have s2 := x_c4_s (T 4 (x_vl b tZ)); exact Or.inr ⟨tc_0, Or.inr ⟨by (first | decide +kernel | omega), by (first | decide +kernel | omega), by (first | decide +kernel | omega)⟩, by (first | decide +kernel | omega)⟩)⟩⟩
                  ·
                    refine V_iconst 1 d_Reader_readNumber_155 (by decide) ?_
                    refine V_goto 160 d_Reader_readNumber_156 (by decide) ?_
                    exact V_zret rfl (by decide) d_Reader_readNumber_160 ⟨1, rfl, ⟨hI63, f64, o8, o8Z, o8E, (kn_call fh61 (kn_ne eh38 (kn_call fh15 o8K rfl) (by decide)) rfl), o9, o9Z, o9E, (kn_call fh61 (kn_ne eh38 (kn_call fh15 o9K rfl) (by decide)) rfl), o10, o10Z, o10E, (kn_call fh61 (kn_ne eh38 (kn_call fh15 o10K rfl) (by decide)) rfl), o11, o11Z, o11E, (kn_call fh61 (kn_ne eh38 (kn_call fh15 o11K rfl) (by decide)) rfl), o65, o65Z, o65E, o65K, o66, o66Z, o66E, o66K, o11, o11Z, o11E, (kn_call fh61 (kn_put eh38) rfl), (by have s1 := num_0 (lo := 0) (hi := 15) p5.2.2.1 p5.2.2.2.2.1 ⟨by (first | decide +kernel | omega), by (first | decide +kernel | omega)⟩; have s2 := x_c4_s (T 4 (x_vl b tZ)); exact Or.inl ⟨rfl, by (first | decide +kernel | omega), by (first | decide +kernel | omega), by (first | decide +kernel | omega), by (first | decide +kernel | omega), by (first | decide +kernel | omega), by (first | decide +kernel | omega), by (first | decide +kernel | omega), by (first | decide +kernel | omega)⟩)⟩⟩
                ·
                  exact absurd c59 (by decide)
              ·
                exact absurd c58 (by decide)
      ·
        refine V_aload_n 0 d_Reader_readNumber_51 rfl rfl ?_
        refine V_iconst 3 d_Reader_readNumber_52 (by decide) ?_
        refine V_aload_n 0 d_Reader_readNumber_53 rfl rfl ?_
        refine V_getR fa_Reader_12 sk_88 rfl d_Reader_readNumber_54 ?_
        refine N_getK fa_Reader_81 sk_89 rfl d_Reader_readNumber_57 (kn_call fh15 o9K rfl) ?_
        refine N_callVI [.int 3, .int o9] [] cv_Reader_64 sk_88 rfl d_Reader_readNumber_60 rfl (Nat.le_of_ble_eq_true rfl) (by decide) (by decide) (c_Reader_isRefusedX h15 hI17 3 3 tc_3 o9 o9Z o9E) (fun z68 h69 z68Z z68E p70 => ?_)
        obtain ⟨hI71, fh69, o73, o73Z, o73E, o73K, o74, o74Z, o74E, o74K, p70⟩ := p70
        have f72 : fr S_Reader_readNumberX_4_0 h h69 := fr_call f18 fh69 rfl
        obtain ⟨z75, z75Z, z75E, z75e⟩ : ∃ (y : Int32) (Y : Int), y.toInt = Y ∧ y = h69.1 91 0 := ⟨_, _, rfl, rfl⟩
        exact V_zret rfl (by rw [z68E]; omega) d_Reader_readNumber_63 ⟨z68, rfl, ⟨hI71, f72, o8, o8Z, o8E, (kn_call fh69 (kn_call fh15 o8K rfl) rfl), o9, o9Z, o9E, (kn_call fh69 (kn_call fh15 o9K rfl) rfl), o10, o10Z, o10E, (kn_call fh69 (kn_call fh15 o10K rfl) rfl), o11, o11Z, o11E, (kn_call fh69 (kn_call fh15 o11K rfl) rfl), o73, o73Z, o73E, o73K, o74, o74Z, o74E, o74K, z75, z75Z, z75E, z75e.symm, (by have s1 := num_3 (lo := 0) (hi := 15) p5.2.2.1 p5.2.2.2.2.1 (by (first | decide +kernel | omega)); exact Or.inr ⟨by (first | decide +kernel | omega), Or.inl ⟨by (first | decide +kernel | omega), by (first | decide +kernel | omega)⟩, by (first | decide +kernel | omega)⟩)⟩⟩
  ·
    have hk9 := num_k 0 15 p5 p16 (by (first | decide +kernel | omega))
    refine V_iconst 0 d_Reader_readNumber_15 (by decide) ?_
    obtain ⟨z76, z76Z, z76E, z76e⟩ : ∃ (y : Int32) (Y : Int), y.toInt = Y ∧ y = h15.1 91 0 := ⟨_, _, rfl, rfl⟩
    exact V_zret rfl (by decide) d_Reader_readNumber_16 ⟨0, rfl, ⟨hI17, f18, o8, o8Z, o8E, (kn_call fh15 o8K rfl), o9, o9Z, o9E, (kn_call fh15 o9K rfl), o10, o10Z, o10E, (kn_call fh15 o10K rfl), o11, o11Z, o11E, (kn_call fh15 o11K rfl), o19, o19Z, o19E, o19K, o20, o20Z, o20E, o20K, z76, z76Z, z76E, z76e.symm, (Or.inr ⟨tc_0, Or.inl ⟨hk9.1, hk9.2.1⟩, hk9.2.2⟩)⟩⟩
def S_Reader_readNumberX_4_1 : List (Nat × Option Nat) := [(89, some 2), (89, some 3), (89, some 4), (89, some 5), (88, some 5), (88, some 6), (91, some 1)]
abbrev q_Reader_readNumberX_4_1 (h : Hp) (b : Int → Int) (T : Nat → Int → Int) (s : Int32) (sZ : Int) (t : Int32) (tZ : Int) (a : Int32) (aZ : Int) (w : Int32) (wZ : Int) : Option Value → Hp → Prop := pInt (fun r h' => Inv h' ∧ fr S_Reader_readNumberX_4_1 h h' ∧ ∃ (k : Int32) (kZ : Int), k.toInt = kZ ∧ h'.1 89 2 = k ∧ ∃ (f : Int32) (fZ : Int), f.toInt = fZ ∧ h'.1 89 3 = f ∧ ∃ (u : Int32) (uZ : Int), u.toInt = uZ ∧ h'.1 89 4 = u ∧ ∃ (v : Int32) (vZ : Int), v.toInt = vZ ∧ h'.1 89 5 = v ∧ ∃ (e : Int32) (eZ : Int), e.toInt = eZ ∧ h'.1 88 6 = e ∧ ∃ (y : Int32) (yZ : Int), y.toInt = yZ ∧ h'.1 88 5 = y ∧ ∃ (x : Int32) (xZ : Int), x.toInt = xZ ∧ h'.1 91 1 = x ∧ (r.toInt = 1 ∧ x_cN b tZ 0 3 = 0 ∧ uZ = x_en b tZ ∧ xZ = x_vl b tZ ∧ eZ = wZ ∧ yZ = aZ ∧ tZ < uZ ∧ uZ ≤ sZ ∨ r.toInt = 0 ∧ (x_cN b tZ 0 3 ≠ 0 ∧ eZ = x_cN b tZ 0 3) ∧ yZ = x_fr b tZ))
set_option maxRecDepth 100000 in
theorem c_Reader_readNumberX_4_1 (h : Hp) (b : Int → Int) (T : Nat → Int → Int) (hI : Inv h) (s : Int32) (sZ : Int) (sE : s.toInt = sZ) (sK : h.1 89 1 = s) (t : Int32) (tZ : Int) (tE : t.toInt = tZ) (tK : h.1 89 4 = t) (a : Int32) (aZ : Int) (aE : a.toInt = aZ) (aK : h.1 88 5 = a) (w : Int32) (wZ : Int) (wE : w.toInt = wZ) (wK : h.1 88 6 = w) (hy0 : TP h 90 sZ b) (hy1 : 0 ≤ tZ ∧ tZ ≤ sZ) : Ct y_Reader_readNumber b_Reader_readNumber 6 (some .boolean) 3 60 [.ref 88, .int 4, .int 1] h (q_Reader_readNumberX_4_1 h b T s sZ t tZ a aZ w wZ) := by
  refine ct_ow R_Reader [some (.ref 88), some (.int 4), some (.int 1), none, none, none] rfl (by decide) rfl (Nat.le_of_ble_eq_true rfl) ?_
  have f0 : fr S_Reader_readNumberX_4_1 h h := fr_rf
  have g1 : 0 ≤ sZ ∧ sZ ≤ 160 := inv_at hI sE sK.symm rfl
  have g2 : 0 ≤ tZ ∧ tZ ≤ 160 := inv_at hI tE tK.symm rfl
  refine V_aload_n 0 d_Reader_readNumber_0 rfl rfl ?_
  refine V_getR fa_Reader_12 sk_88 rfl d_Reader_readNumber_1 ?_
  refine N_callVV [] [] cv_Reader_48 sk_89 rfl d_Reader_readNumber_4 rfl (Nat.le_of_ble_eq_true rfl) (by decide) (by decide) (c_Tape_advanceX h b hI s sZ sE sK t tZ tE tK (TP_fr f0 (fun _ => rfl) hy0) (by (first | decide +kernel | omega))) (fun h4 p5 => ?_)
  obtain ⟨hI6, fh4, o8, o8Z, o8E, o8K, o9, o9Z, o9E, o9K, o10, o10Z, o10E, o10K, o11, o11Z, o11E, o11K, p5⟩ := p5
  have f7 : fr S_Reader_readNumberX_4_1 h h4 := fr_call f0 fh4 rfl
  have g12 : 0 ≤ o9Z ∧ o9Z ≤ 160 := inv_at hI6 o9E o9K.symm rfl
  have g13 : 0 ≤ o10Z ∧ o10Z ≤ 160 := inv_at hI6 o10E o10K.symm rfl
  refine V_aload_n 0 d_Reader_readNumber_7 rfl rfl ?_
  refine V_iconst 2 d_Reader_readNumber_8 (by decide) ?_
  refine N_callVI [.int 2] [] cv_Reader_84 sk_88 rfl d_Reader_readNumber_9 rfl (Nat.le_of_ble_eq_true rfl) (by decide) (by decide) (c_Reader_isKindX h4 hI6 2 2 tc_2 o8 o8Z o8E o8K o9 o9Z o9E o9K a aZ aE (kn_call fh4 aK rfl) w wZ wE (kn_call fh4 wK rfl)) (fun z14 h15 z14Z z14E p16 => ?_)
  obtain ⟨hI17, fh15, o19, o19Z, o19E, o19K, o20, o20Z, o20E, o20K, p16⟩ := p16
  have f18 : fr S_Reader_readNumberX_4_1 h h15 := fr_call f7 fh15 rfl
  refine V_if_ne 17 z14E d_Reader_readNumber_12 (by decide) (fun c21 => ?_) (fun c21 => ?_)
  ·
    replace p16 := kd_y p16 (by (first | decide +kernel | omega))
    replace p5 := adv_2 p5 (by (first | decide +kernel | omega))
    refine V_aload_n 0 d_Reader_readNumber_17 rfl rfl ?_
    refine V_getR fa_Reader_12 sk_88 rfl d_Reader_readNumber_18 ?_
    refine N_getK fa_Reader_122 sk_89 rfl d_Reader_readNumber_21 (kn_call fh15 o11K rfl) ?_
    refine V_istore_n 3 [some (.ref 88), some (.int 4), some (.int 1), some (.int o11), none, none] d_Reader_readNumber_24 rfl (by decide) rfl rfl ?_
    refine V_iload_n 3 d_Reader_readNumber_25 rfl rfl ?_
    refine V_gets (v := .ref 133) zL ws_Reader_125 d_Reader_readNumber_26 ?_
    refine V_iconst 3 d_Reader_readNumber_29 (by decide) ?_
    refine V_iload_n 1 d_Reader_readNumber_30 rfl rfl ?_
    refine V_imulw d_Reader_readNumber_31 (fun z22 z22e => ?_)
    obtain rfl : z22 = 12 := z22e.trans (by decide)
    refine V_iload_n 2 d_Reader_readNumber_32 rfl rfl ?_
    refine V_iaddw d_Reader_readNumber_33 (fun z23 z23e => ?_)
    obtain rfl : z23 = 13 := z23e.trans (by decide)
    refine V_tald roL tc_13 (by decide) d_Reader_readNumber_34 (fun z24 z24Z z24E z24e => ?_)
    obtain rfl : z24 = 0 := z24e.trans rfl
    refine V_icmp_lt 51 o11E tc_0 d_Reader_readNumber_35 (by decide) (fun c25 => ?_) (fun c25 => ?_)
    ·
      refine V_aload_n 0 d_Reader_readNumber_51 rfl rfl ?_
      refine V_iconst 3 d_Reader_readNumber_52 (by decide) ?_
      refine V_aload_n 0 d_Reader_readNumber_53 rfl rfl ?_
      refine V_getR fa_Reader_12 sk_88 rfl d_Reader_readNumber_54 ?_
      refine N_getK fa_Reader_81 sk_89 rfl d_Reader_readNumber_57 (kn_call fh15 o9K rfl) ?_
      refine N_callVI [.int 3, .int o9] [] cv_Reader_64 sk_88 rfl d_Reader_readNumber_60 rfl (Nat.le_of_ble_eq_true rfl) (by decide) (by decide) (c_Reader_isRefusedX h15 hI17 3 3 tc_3 o9 o9Z o9E) (fun z26 h27 z26Z z26E p28 => ?_)
      obtain ⟨hI29, fh27, o31, o31Z, o31E, o31K, o32, o32Z, o32E, o32K, p28⟩ := p28
      have f30 : fr S_Reader_readNumberX_4_1 h h27 := fr_call f18 fh27 rfl
      obtain ⟨z33, z33Z, z33E, z33e⟩ : ∃ (y : Int32) (Y : Int), y.toInt = Y ∧ y = h27.1 91 1 := ⟨_, _, rfl, rfl⟩
      exact V_zret rfl (by rw [z26E]; omega) d_Reader_readNumber_63 ⟨z26, rfl, ⟨hI29, f30, o8, o8Z, o8E, (kn_call fh27 (kn_call fh15 o8K rfl) rfl), o9, o9Z, o9E, (kn_call fh27 (kn_call fh15 o9K rfl) rfl), o10, o10Z, o10E, (kn_call fh27 (kn_call fh15 o10K rfl) rfl), o11, o11Z, o11E, (kn_call fh27 (kn_call fh15 o11K rfl) rfl), o31, o31Z, o31E, o31K, o32, o32Z, o32E, o32K, z33, z33Z, z33E, z33e.symm, (by have s1 := num_3 (lo := 0) (hi := 3) p5.2.2.1 p5.2.2.2.2.1 (by (first | decide +kernel | omega)); exact Or.inr ⟨by (first | decide +kernel | omega), ⟨by (first | decide +kernel | omega), by (first | decide +kernel | omega)⟩, by (first | decide +kernel | omega)⟩)⟩⟩
    ·
      refine V_iload_n 3 d_Reader_readNumber_38 rfl rfl ?_
      refine V_gets (v := .ref 134) zM ws_Reader_128 d_Reader_readNumber_39 ?_
      refine V_iconst 3 d_Reader_readNumber_42 (by decide) ?_
      refine V_iload_n 1 d_Reader_readNumber_43 rfl rfl ?_
      refine V_imulw d_Reader_readNumber_44 (fun z34 z34e => ?_)
      obtain rfl : z34 = 12 := z34e.trans (by decide)
      refine V_iload_n 2 d_Reader_readNumber_45 rfl rfl ?_
      refine V_iaddw d_Reader_readNumber_46 (fun z35 z35e => ?_)
      obtain rfl : z35 = 13 := z35e.trans (by decide)
      refine V_tald roM tc_13 (by decide) d_Reader_readNumber_47 (fun z36 z36Z z36E z36e => ?_)
      obtain rfl : z36 = 3 := z36e.trans rfl
      refine V_icmp_le 64 o11E tc_3 d_Reader_readNumber_48 (by decide) (fun c37 => ?_) (fun c37 => ?_)
      ·
        refine V_aload_n 0 d_Reader_readNumber_64 rfl rfl ?_
        refine V_getR fa_Reader_25 sk_88 rfl d_Reader_readNumber_65 ?_
        refine V_iload_n 2 d_Reader_readNumber_68 rfl rfl ?_
        refine V_iload_n 3 d_Reader_readNumber_69 rfl rfl ?_
        refine N_iast sk_91 tc_1 (by (first | decide +kernel | omega)) d_Reader_readNumber_70 (fun h38 eh38 => ?_)
        have hI39 : Inv h38 := inv_full hI17 eh38 rfl
        have f40 : fr S_Reader_readNumberX_4_1 h h38 := fr_put f18 eh38 rfl
        refine V_iload_n 2 d_Reader_readNumber_71 rfl rfl ?_
        refine V_if_ne 99 tc_1 d_Reader_readNumber_72 (by decide) (fun c41 => ?_) (fun c41 => ?_)
        ·
          refine V_iconst 0 d_Reader_readNumber_99 (by decide) ?_
          refine V_istore 4 [some (.ref 88), some (.int 4), some (.int 1), some (.int o11), some (.int 0), none] d_Reader_readNumber_100 (by decide) rfl rfl ?_
          refine V_iload_n 2 d_Reader_readNumber_102 rfl rfl ?_
          refine V_iconst 1 d_Reader_readNumber_103 (by decide) ?_
          refine V_icmp_ne 127 tc_1 tc_1 d_Reader_readNumber_104 (by decide) (fun c42 => ?_) (fun c42 => ?_)
          ·
            exact absurd c42 (by decide)
          ·
            refine V_iload_n 1 d_Reader_readNumber_107 rfl rfl ?_
            refine V_bipush 9 d_Reader_readNumber_108 (by decide) ?_
            refine V_icmp_ne 127 tc_4 tc_9 d_Reader_readNumber_110 (by decide) (fun c43 => ?_) (fun c43 => ?_)
            ·
              refine V_iconst 0 d_Reader_readNumber_127 (by decide) ?_
              refine V_istore 5 [some (.ref 88), some (.int 4), some (.int 1), some (.int o11), some (.int 0), some (.int 0)] d_Reader_readNumber_128 (by decide) rfl rfl ?_
              refine V_iload d_Reader_readNumber_130 rfl ?_
              refine V_if_ne 140 tc_0 d_Reader_readNumber_132 (by decide) (fun c44 => ?_) (fun c44 => ?_)
              ·
                exact absurd c44 (by decide)
              ·
                refine V_iload d_Reader_readNumber_135 rfl ?_
                refine V_if_eq 155 tc_0 d_Reader_readNumber_137 (by decide) (fun c45 => ?_) (fun c45 => ?_)
                ·
                  refine V_iconst 1 d_Reader_readNumber_155 (by decide) ?_
                  refine V_goto 160 d_Reader_readNumber_156 (by decide) ?_
                  exact V_zret rfl (by decide) d_Reader_readNumber_160 ⟨1, rfl, ⟨hI39, f40, o8, o8Z, o8E, (kn_ne eh38 (kn_call fh15 o8K rfl) (by decide)), o9, o9Z, o9E, (kn_ne eh38 (kn_call fh15 o9K rfl) (by decide)), o10, o10Z, o10E, (kn_ne eh38 (kn_call fh15 o10K rfl) (by decide)), o11, o11Z, o11E, (kn_ne eh38 (kn_call fh15 o11K rfl) (by decide)), o19, o19Z, o19E, (kn_ne eh38 o19K (by decide)), o20, o20Z, o20E, (kn_ne eh38 o20K (by decide)), o11, o11Z, o11E, (kn_put eh38), (by have s1 := num_0 (lo := 0) (hi := 3) p5.2.2.1 p5.2.2.2.2.1 ⟨by (first | decide +kernel | omega), by (first | decide +kernel | omega)⟩; exact Or.inl ⟨rfl, by (first | decide +kernel | omega), by (first | decide +kernel | omega), by (first | decide +kernel | omega), by (first | decide +kernel | omega), by (first | decide +kernel | omega), by (first | decide +kernel | omega), by (first | decide +kernel | omega)⟩)⟩⟩
                ·
                  exact absurd c45 (by decide)
            ·
              exact absurd c43 (by decide)
        ·
          exact absurd c41 (by decide)
      ·
        refine V_aload_n 0 d_Reader_readNumber_51 rfl rfl ?_
        refine V_iconst 3 d_Reader_readNumber_52 (by decide) ?_
        refine V_aload_n 0 d_Reader_readNumber_53 rfl rfl ?_
        refine V_getR fa_Reader_12 sk_88 rfl d_Reader_readNumber_54 ?_
        refine N_getK fa_Reader_81 sk_89 rfl d_Reader_readNumber_57 (kn_call fh15 o9K rfl) ?_
        refine N_callVI [.int 3, .int o9] [] cv_Reader_64 sk_88 rfl d_Reader_readNumber_60 rfl (Nat.le_of_ble_eq_true rfl) (by decide) (by decide) (c_Reader_isRefusedX h15 hI17 3 3 tc_3 o9 o9Z o9E) (fun z46 h47 z46Z z46E p48 => ?_)
        obtain ⟨hI49, fh47, o51, o51Z, o51E, o51K, o52, o52Z, o52E, o52K, p48⟩ := p48
        have f50 : fr S_Reader_readNumberX_4_1 h h47 := fr_call f18 fh47 rfl
        obtain ⟨z53, z53Z, z53E, z53e⟩ : ∃ (y : Int32) (Y : Int), y.toInt = Y ∧ y = h47.1 91 1 := ⟨_, _, rfl, rfl⟩
        exact V_zret rfl (by rw [z46E]; omega) d_Reader_readNumber_63 ⟨z46, rfl, ⟨hI49, f50, o8, o8Z, o8E, (kn_call fh47 (kn_call fh15 o8K rfl) rfl), o9, o9Z, o9E, (kn_call fh47 (kn_call fh15 o9K rfl) rfl), o10, o10Z, o10E, (kn_call fh47 (kn_call fh15 o10K rfl) rfl), o11, o11Z, o11E, (kn_call fh47 (kn_call fh15 o11K rfl) rfl), o51, o51Z, o51E, o51K, o52, o52Z, o52E, o52K, z53, z53Z, z53E, z53e.symm, (by have s1 := num_3 (lo := 0) (hi := 3) p5.2.2.1 p5.2.2.2.2.1 (by (first | decide +kernel | omega)); exact Or.inr ⟨by (first | decide +kernel | omega), ⟨by (first | decide +kernel | omega), by (first | decide +kernel | omega)⟩, by (first | decide +kernel | omega)⟩)⟩⟩
  ·
    have hk9 := num_k 0 3 p5 p16 (by (first | decide +kernel | omega))
    refine V_iconst 0 d_Reader_readNumber_15 (by decide) ?_
    obtain ⟨z54, z54Z, z54E, z54e⟩ : ∃ (y : Int32) (Y : Int), y.toInt = Y ∧ y = h15.1 91 1 := ⟨_, _, rfl, rfl⟩
    exact V_zret rfl (by decide) d_Reader_readNumber_16 ⟨0, rfl, ⟨hI17, f18, o8, o8Z, o8E, (kn_call fh15 o8K rfl), o9, o9Z, o9E, (kn_call fh15 o9K rfl), o10, o10Z, o10E, (kn_call fh15 o10K rfl), o11, o11Z, o11E, (kn_call fh15 o11K rfl), o19, o19Z, o19E, o19K, o20, o20Z, o20E, o20K, z54, z54Z, z54E, z54e.symm, (Or.inr ⟨tc_0, ⟨hk9.1, hk9.2.1⟩, hk9.2.2⟩)⟩⟩
def S_Reader_readNumberX_5_0 : List (Nat × Option Nat) := [(89, some 2), (89, some 3), (89, some 4), (89, some 5), (88, some 5), (88, some 6), (91, some 0)]
abbrev q_Reader_readNumberX_5_0 (h : Hp) (b : Int → Int) (T : Nat → Int → Int) (s : Int32) (sZ : Int) (t : Int32) (tZ : Int) (a : Int32) (aZ : Int) (w : Int32) (wZ : Int) (z : Int32) (zZ : Int) : Option Value → Hp → Prop := pInt (fun r h' => Inv h' ∧ fr S_Reader_readNumberX_5_0 h h' ∧ ∃ (k : Int32) (kZ : Int), k.toInt = kZ ∧ h'.1 89 2 = k ∧ ∃ (f : Int32) (fZ : Int), f.toInt = fZ ∧ h'.1 89 3 = f ∧ ∃ (u : Int32) (uZ : Int), u.toInt = uZ ∧ h'.1 89 4 = u ∧ ∃ (v : Int32) (vZ : Int), v.toInt = vZ ∧ h'.1 89 5 = v ∧ ∃ (e : Int32) (eZ : Int), e.toInt = eZ ∧ h'.1 88 6 = e ∧ ∃ (y : Int32) (yZ : Int), y.toInt = yZ ∧ h'.1 88 5 = y ∧ ∃ (x : Int32) (xZ : Int), x.toInt = xZ ∧ h'.1 91 0 = x ∧ (r.toInt = 1 ∧ x_cN b tZ 0 3 = 0 ∧ x_c4 (T 5 (x_vl b tZ)) = 0 ∧ uZ = x_en b tZ ∧ xZ = x_vl b tZ ∧ eZ = wZ ∧ yZ = aZ ∧ tZ < uZ ∧ uZ ≤ sZ ∨ r.toInt = 0 ∧ (x_cN b tZ 0 3 ≠ 0 ∧ eZ = x_cN b tZ 0 3 ∨ x_cN b tZ 0 3 = 0 ∧ x_c4 (T 5 (x_vl b tZ)) ≠ 0 ∧ eZ = x_c4 (T 5 (x_vl b tZ))) ∧ yZ = x_fr b tZ))
set_option maxRecDepth 100000 in
theorem c_Reader_readNumberX_5_0 (h : Hp) (b : Int → Int) (T : Nat → Int → Int) (hI : Inv h) (s : Int32) (sZ : Int) (sE : s.toInt = sZ) (sK : h.1 89 1 = s) (t : Int32) (tZ : Int) (tE : t.toInt = tZ) (tK : h.1 89 4 = t) (a : Int32) (aZ : Int) (aE : a.toInt = aZ) (aK : h.1 88 5 = a) (w : Int32) (wZ : Int) (wE : w.toInt = wZ) (wK : h.1 88 6 = w) (z : Int32) (zZ : Int) (zE : z.toInt = zZ) (zK : h.1 92 5 = z) (hy0 : TP h 90 sZ b) (hy1 : 0 ≤ tZ ∧ tZ ≤ sZ) (hy2 : x_TB z (T 5)) : Ct y_Reader_readNumber b_Reader_readNumber 6 (some .boolean) 3 60 [.ref 88, .int 5, .int 0] h (q_Reader_readNumberX_5_0 h b T s sZ t tZ a aZ w wZ z zZ) := by
  refine ct_ow R_Reader [some (.ref 88), some (.int 5), some (.int 0), none, none, none] rfl (by decide) rfl (Nat.le_of_ble_eq_true rfl) ?_
  have f0 : fr S_Reader_readNumberX_5_0 h h := fr_rf
  have g1 : 0 ≤ sZ ∧ sZ ≤ 160 := inv_at hI sE sK.symm rfl
  have g2 : 0 ≤ tZ ∧ tZ ≤ 160 := inv_at hI tE tK.symm rfl
  refine V_aload_n 0 d_Reader_readNumber_0 rfl rfl ?_
  refine V_getR fa_Reader_12 sk_88 rfl d_Reader_readNumber_1 ?_
  refine N_callVV [] [] cv_Reader_48 sk_89 rfl d_Reader_readNumber_4 rfl (Nat.le_of_ble_eq_true rfl) (by decide) (by decide) (c_Tape_advanceX h b hI s sZ sE sK t tZ tE tK (TP_fr f0 (fun _ => rfl) hy0) (by (first | decide +kernel | omega))) (fun h4 p5 => ?_)
  obtain ⟨hI6, fh4, o8, o8Z, o8E, o8K, o9, o9Z, o9E, o9K, o10, o10Z, o10E, o10K, o11, o11Z, o11E, o11K, p5⟩ := p5
  have f7 : fr S_Reader_readNumberX_5_0 h h4 := fr_call f0 fh4 rfl
  have g12 : 0 ≤ o9Z ∧ o9Z ≤ 160 := inv_at hI6 o9E o9K.symm rfl
  have g13 : 0 ≤ o10Z ∧ o10Z ≤ 160 := inv_at hI6 o10E o10K.symm rfl
  refine V_aload_n 0 d_Reader_readNumber_7 rfl rfl ?_
  refine V_iconst 2 d_Reader_readNumber_8 (by decide) ?_
  refine N_callVI [.int 2] [] cv_Reader_84 sk_88 rfl d_Reader_readNumber_9 rfl (Nat.le_of_ble_eq_true rfl) (by decide) (by decide) (c_Reader_isKindX h4 hI6 2 2 tc_2 o8 o8Z o8E o8K o9 o9Z o9E o9K a aZ aE (kn_call fh4 aK rfl) w wZ wE (kn_call fh4 wK rfl)) (fun z14 h15 z14Z z14E p16 => ?_)
  obtain ⟨hI17, fh15, o19, o19Z, o19E, o19K, o20, o20Z, o20E, o20K, p16⟩ := p16
  have f18 : fr S_Reader_readNumberX_5_0 h h15 := fr_call f7 fh15 rfl
  refine V_if_ne 17 z14E d_Reader_readNumber_12 (by decide) (fun c21 => ?_) (fun c21 => ?_)
  ·
    replace p16 := kd_y p16 (by (first | decide +kernel | omega))
    replace p5 := adv_2 p5 (by (first | decide +kernel | omega))
    refine V_aload_n 0 d_Reader_readNumber_17 rfl rfl ?_
    refine V_getR fa_Reader_12 sk_88 rfl d_Reader_readNumber_18 ?_
    refine N_getK fa_Reader_122 sk_89 rfl d_Reader_readNumber_21 (kn_call fh15 o11K rfl) ?_
    refine V_istore_n 3 [some (.ref 88), some (.int 5), some (.int 0), some (.int o11), none, none] d_Reader_readNumber_24 rfl (by decide) rfl rfl ?_
    refine V_iload_n 3 d_Reader_readNumber_25 rfl rfl ?_
    refine V_gets (v := .ref 133) zL ws_Reader_125 d_Reader_readNumber_26 ?_
    refine V_iconst 3 d_Reader_readNumber_29 (by decide) ?_
    refine V_iload_n 1 d_Reader_readNumber_30 rfl rfl ?_
    refine V_imulw d_Reader_readNumber_31 (fun z22 z22e => ?_)
    obtain rfl : z22 = 15 := z22e.trans (by decide)
    refine V_iload_n 2 d_Reader_readNumber_32 rfl rfl ?_
    refine V_iaddw d_Reader_readNumber_33 (fun z23 z23e => ?_)
    obtain rfl : z23 = 15 := z23e.trans (by decide)
    refine V_tald roL tc_15 (by decide) d_Reader_readNumber_34 (fun z24 z24Z z24E z24e => ?_)
    obtain rfl : z24 = 0 := z24e.trans rfl
    refine V_icmp_lt 51 o11E tc_0 d_Reader_readNumber_35 (by decide) (fun c25 => ?_) (fun c25 => ?_)
    ·
      refine V_aload_n 0 d_Reader_readNumber_51 rfl rfl ?_
      refine V_iconst 3 d_Reader_readNumber_52 (by decide) ?_
      refine V_aload_n 0 d_Reader_readNumber_53 rfl rfl ?_
      refine V_getR fa_Reader_12 sk_88 rfl d_Reader_readNumber_54 ?_
      refine N_getK fa_Reader_81 sk_89 rfl d_Reader_readNumber_57 (kn_call fh15 o9K rfl) ?_
      refine N_callVI [.int 3, .int o9] [] cv_Reader_64 sk_88 rfl d_Reader_readNumber_60 rfl (Nat.le_of_ble_eq_true rfl) (by decide) (by decide) (c_Reader_isRefusedX h15 hI17 3 3 tc_3 o9 o9Z o9E) (fun z26 h27 z26Z z26E p28 => ?_)
      obtain ⟨hI29, fh27, o31, o31Z, o31E, o31K, o32, o32Z, o32E, o32K, p28⟩ := p28
      have f30 : fr S_Reader_readNumberX_5_0 h h27 := fr_call f18 fh27 rfl
      obtain ⟨z33, z33Z, z33E, z33e⟩ : ∃ (y : Int32) (Y : Int), y.toInt = Y ∧ y = h27.1 91 0 := ⟨_, _, rfl, rfl⟩
      exact V_zret rfl (by rw [z26E]; omega) d_Reader_readNumber_63 ⟨z26, rfl, ⟨hI29, f30, o8, o8Z, o8E, (kn_call fh27 (kn_call fh15 o8K rfl) rfl), o9, o9Z, o9E, (kn_call fh27 (kn_call fh15 o9K rfl) rfl), o10, o10Z, o10E, (kn_call fh27 (kn_call fh15 o10K rfl) rfl), o11, o11Z, o11E, (kn_call fh27 (kn_call fh15 o11K rfl) rfl), o31, o31Z, o31E, o31K, o32, o32Z, o32E, o32K, z33, z33Z, z33E, z33e.symm, (by have s1 := num_3 (lo := 0) (hi := 3) p5.2.2.1 p5.2.2.2.2.1 (by (first | decide +kernel | omega)); exact Or.inr ⟨by (first | decide +kernel | omega), Or.inl ⟨by (first | decide +kernel | omega), by (first | decide +kernel | omega)⟩, by (first | decide +kernel | omega)⟩)⟩⟩
    ·
      refine V_iload_n 3 d_Reader_readNumber_38 rfl rfl ?_
      refine V_gets (v := .ref 134) zM ws_Reader_128 d_Reader_readNumber_39 ?_
      refine V_iconst 3 d_Reader_readNumber_42 (by decide) ?_
      refine V_iload_n 1 d_Reader_readNumber_43 rfl rfl ?_
      refine V_imulw d_Reader_readNumber_44 (fun z34 z34e => ?_)
      obtain rfl : z34 = 15 := z34e.trans (by decide)
      refine V_iload_n 2 d_Reader_readNumber_45 rfl rfl ?_
      refine V_iaddw d_Reader_readNumber_46 (fun z35 z35e => ?_)
      obtain rfl : z35 = 15 := z35e.trans (by decide)
      refine V_tald roM tc_15 (by decide) d_Reader_readNumber_47 (fun z36 z36Z z36E z36e => ?_)
      obtain rfl : z36 = 3 := z36e.trans rfl
      refine V_icmp_le 64 o11E tc_3 d_Reader_readNumber_48 (by decide) (fun c37 => ?_) (fun c37 => ?_)
      ·
        refine V_aload_n 0 d_Reader_readNumber_64 rfl rfl ?_
        refine V_getR fa_Reader_25 sk_88 rfl d_Reader_readNumber_65 ?_
        refine V_iload_n 2 d_Reader_readNumber_68 rfl rfl ?_
        refine V_iload_n 3 d_Reader_readNumber_69 rfl rfl ?_
        refine N_iast sk_91 tc_0 (by (first | decide +kernel | omega)) d_Reader_readNumber_70 (fun h38 eh38 => ?_)
        have hI39 : Inv h38 := inv_full hI17 eh38 rfl
        have f40 : fr S_Reader_readNumberX_5_0 h h38 := fr_put f18 eh38 rfl
        refine V_iload_n 2 d_Reader_readNumber_71 rfl rfl ?_
        refine V_if_ne 99 tc_0 d_Reader_readNumber_72 (by decide) (fun c41 => ?_) (fun c41 => ?_)
        ·
          exact absurd c41 (by decide)
        ·
          refine V_iload_n 1 d_Reader_readNumber_75 rfl rfl ?_
          refine N_callSI [.int 5] [] cs_Reader_131 d_Reader_readNumber_76 rfl (Nat.le_of_ble_eq_true rfl) (by decide) (by decide) (c_Reader_isOfOneX_5 h38) (fun z42 h43 z42Z z42E p44 => ?_)
          obtain ⟨eh43, p44⟩ := p44
          subst eh43
          refine V_if_eq 99 z42E d_Reader_readNumber_79 (by decide) (fun c45 => ?_) (fun c45 => ?_)
          ·
            refine V_iconst 0 d_Reader_readNumber_99 (by decide) ?_
            refine V_istore 4 [some (.ref 88), some (.int 5), some (.int 0), some (.int o11), some (.int 0), none] d_Reader_readNumber_100 (by decide) rfl rfl ?_
            refine V_iload_n 2 d_Reader_readNumber_102 rfl rfl ?_
            refine V_iconst 1 d_Reader_readNumber_103 (by decide) ?_
            refine V_icmp_ne 127 tc_0 tc_1 d_Reader_readNumber_104 (by decide) (fun c46 => ?_) (fun c46 => ?_)
            ·
              refine V_iconst 0 d_Reader_readNumber_127 (by decide) ?_
              refine V_istore 5 [some (.ref 88), some (.int 5), some (.int 0), some (.int o11), some (.int 0), some (.int 0)] d_Reader_readNumber_128 (by decide) rfl rfl ?_
              refine V_iload d_Reader_readNumber_130 rfl ?_
              refine V_if_ne 140 tc_0 d_Reader_readNumber_132 (by decide) (fun c47 => ?_) (fun c47 => ?_)
              ·
                exact absurd c47 (by decide)
              ·
                refine V_iload d_Reader_readNumber_135 rfl ?_
                refine V_if_eq 155 tc_0 d_Reader_readNumber_137 (by decide) (fun c48 => ?_) (fun c48 => ?_)
                ·
                  refine V_iconst 1 d_Reader_readNumber_155 (by decide) ?_
                  refine V_goto 160 d_Reader_readNumber_156 (by decide) ?_
                  exact V_zret rfl (by decide) d_Reader_readNumber_160 ⟨1, rfl, ⟨hI39, f40, o8, o8Z, o8E, (kn_ne eh38 (kn_call fh15 o8K rfl) (by decide)), o9, o9Z, o9E, (kn_ne eh38 (kn_call fh15 o9K rfl) (by decide)), o10, o10Z, o10E, (kn_ne eh38 (kn_call fh15 o10K rfl) (by decide)), o11, o11Z, o11E, (kn_ne eh38 (kn_call fh15 o11K rfl) (by decide)), o19, o19Z, o19E, (kn_ne eh38 o19K (by decide)), o20, o20Z, o20E, (kn_ne eh38 o20K (by decide)), o11, o11Z, o11E, (kn_put eh38), (by have s1 := num_0 (lo := 0) (hi := 3) p5.2.2.1 p5.2.2.2.2.1 ⟨by (first | decide +kernel | omega), by (first | decide +kernel | omega)⟩; have s2 := x_c4_s (T 5 (x_vl b tZ)); exact Or.inl ⟨rfl, by (first | decide +kernel | omega), by (first | decide +kernel | omega), by (first | decide +kernel | omega), by (first | decide +kernel | omega), by (first | decide +kernel | omega), by (first | decide +kernel | omega), by (first | decide +kernel | omega), by (first | decide +kernel | omega)⟩)⟩⟩
                ·
                  exact absurd c48 (by decide)
            ·
              exact absurd c46 (by decide)
          ·
            refine V_aload_n 0 d_Reader_readNumber_82 rfl rfl ?_
            refine V_getR fa_Reader_29 sk_88 rfl d_Reader_readNumber_83 ?_
            refine V_iload_n 1 d_Reader_readNumber_86 rfl rfl ?_
            refine N_ialdK sk_92 tc_5 (by (first | decide +kernel | omega)) d_Reader_readNumber_87 (kn_ne eh38 (kn_call fh15 (kn_call fh4 zK rfl) rfl) (by decide)) ?_
            refine V_iload_n 3 d_Reader_readNumber_88 rfl rfl ?_
            refine N_ishr d_Reader_readNumber_89 (fun z50 z50Z z50E z50e => ?_)
            refine V_iconst 1 d_Reader_readNumber_90 (by decide) ?_
            refine N_iand d_Reader_readNumber_91 (fun z51 z51Z z51E z51e => ?_)
            have g52 : z51Z = T 5 o11Z := x_bt_of hy2 (by (first | decide +kernel | omega)) (by (first | decide +kernel | omega)) o11E z51E (by assumption) (by assumption)
            have g53 : T 5 o11Z = T 5 (x_vl b tZ) := congrArg (T 5) (by (first | decide +kernel | omega))
            refine V_if_eq 99 z51E d_Reader_readNumber_92 (by decide) (fun c54 => ?_) (fun c54 => ?_)
            ·
              refine V_iconst 0 d_Reader_readNumber_99 (by decide) ?_
              refine V_istore 4 [some (.ref 88), some (.int 5), some (.int 0), some (.int o11), some (.int 0), none] d_Reader_readNumber_100 (by decide) rfl rfl ?_
              refine V_iload_n 2 d_Reader_readNumber_102 rfl rfl ?_
              refine V_iconst 1 d_Reader_readNumber_103 (by decide) ?_
              refine V_icmp_ne 127 tc_0 tc_1 d_Reader_readNumber_104 (by decide) (fun c55 => ?_) (fun c55 => ?_)
              ·
                refine V_iconst 0 d_Reader_readNumber_127 (by decide) ?_
                refine V_istore 5 [some (.ref 88), some (.int 5), some (.int 0), some (.int o11), some (.int 0), some (.int 0)] d_Reader_readNumber_128 (by decide) rfl rfl ?_
                refine V_iload d_Reader_readNumber_130 rfl ?_
                refine V_if_ne 140 tc_0 d_Reader_readNumber_132 (by decide) (fun c56 => ?_) (fun c56 => ?_)
                ·
                  exact absurd c56 (by decide)
                ·
                  refine V_iload d_Reader_readNumber_135 rfl ?_
                  refine V_if_eq 155 tc_0 d_Reader_readNumber_137 (by decide) (fun c57 => ?_) (fun c57 => ?_)
                  ·
                    refine V_iconst 1 d_Reader_readNumber_155 (by decide) ?_
                    refine V_goto 160 d_Reader_readNumber_156 (by decide) ?_
                    exact V_zret rfl (by decide) d_Reader_readNumber_160 ⟨1, rfl, ⟨hI39, f40, o8, o8Z, o8E, (kn_ne eh38 (kn_call fh15 o8K rfl) (by decide)), o9, o9Z, o9E, (kn_ne eh38 (kn_call fh15 o9K rfl) (by decide)), o10, o10Z, o10E, (kn_ne eh38 (kn_call fh15 o10K rfl) (by decide)), o11, o11Z, o11E, (kn_ne eh38 (kn_call fh15 o11K rfl) (by decide)), o19, o19Z, o19E, (kn_ne eh38 o19K (by decide)), o20, o20Z, o20E, (kn_ne eh38 o20K (by decide)), o11, o11Z, o11E, (kn_put eh38), (by have s1 := num_0 (lo := 0) (hi := 3) p5.2.2.1 p5.2.2.2.2.1 ⟨by (first | decide +kernel | omega), by (first | decide +kernel | omega)⟩; have s2 := x_c4_s (T 5 (x_vl b tZ)); exact Or.inl ⟨rfl, by (first | decide +kernel | omega), by (first | decide +kernel | omega), by (first | decide +kernel | omega), by (first | decide +kernel | omega), by (first | decide +kernel | omega), by (first | decide +kernel | omega), by (first | decide +kernel | omega), by (first | decide +kernel | omega)⟩)⟩⟩
                  ·
                    exact absurd c57 (by decide)
              ·
                exact absurd c55 (by decide)
            ·
              refine V_iconst 1 d_Reader_readNumber_95 (by decide) ?_
              refine V_goto 100 d_Reader_readNumber_96 (by decide) ?_
              refine V_istore 4 [some (.ref 88), some (.int 5), some (.int 0), some (.int o11), some (.int 1), none] d_Reader_readNumber_100 (by decide) rfl rfl ?_
              refine V_iload_n 2 d_Reader_readNumber_102 rfl rfl ?_
              refine V_iconst 1 d_Reader_readNumber_103 (by decide) ?_
              refine V_icmp_ne 127 tc_0 tc_1 d_Reader_readNumber_104 (by decide) (fun c58 => ?_) (fun c58 => ?_)
              ·
                refine V_iconst 0 d_Reader_readNumber_127 (by decide) ?_
                refine V_istore 5 [some (.ref 88), some (.int 5), some (.int 0), some (.int o11), some (.int 1), some (.int 0)] d_Reader_readNumber_128 (by decide) rfl rfl ?_
                refine V_iload d_Reader_readNumber_130 rfl ?_
                refine V_if_ne 140 tc_1 d_Reader_readNumber_132 (by decide) (fun c59 => ?_) (fun c59 => ?_)
                ·
                  refine V_aload_n 0 d_Reader_readNumber_140 rfl rfl ?_
                  refine V_iconst 4 d_Reader_readNumber_141 (by decide) ?_
                  refine V_aload_n 0 d_Reader_readNumber_142 rfl rfl ?_
                  refine V_getR fa_Reader_12 sk_88 rfl d_Reader_readNumber_143 ?_
                  refine N_getK fa_Reader_81 sk_89 rfl d_Reader_readNumber_146 (kn_ne eh38 (kn_call fh15 o9K rfl) (by decide)) ?_
                  refine N_callVI [.int 4, .int o9] [] cv_Reader_64 sk_88 rfl d_Reader_readNumber_149 rfl (Nat.le_of_ble_eq_true rfl) (by decide) (by decide) (c_Reader_isRefusedX h38 hI39 4 4 tc_4 o9 o9Z o9E) (fun z60 h61 z60Z z60E p62 => ?_)
                  obtain ⟨hI63, fh61, o65, o65Z, o65E, o65K, o66, o66Z, o66E, o66K, p62⟩ := p62
                  have f64 : fr S_Reader_readNumberX_5_0 h h61 := fr_call f40 fh61 rfl
                  refine V_if_eq 159 z60E d_Reader_readNumber_152 (by decide) (fun c67 => ?_) (fun c67 => ?_)
                  ·
                    refine V_iconst 0 d_Reader_readNumber_159 (by decide) ?_
                    exact V_zret rfl (by decide) d_Reader_readNumber_160 ⟨0, rfl, ⟨hI63, f64, o8, o8Z, o8E, (kn_call fh61 (kn_ne eh38 (kn_call fh15 o8K rfl) (by decide)) rfl), o9, o9Z, o9E, (kn_call fh61 (kn_ne eh38 (kn_call fh15 o9K rfl) (by decide)) rfl), o10, o10Z, o10E, (kn_call fh61 (kn_ne eh38 (kn_call fh15 o10K rfl) (by decide)) rfl), o11, o11Z, o11E, (kn_call fh61 (kn_ne eh38 (kn_call fh15 o11K rfl) (by decide)) rfl), o65, o65Z, o65E, o65K, o66, o66Z, o66E, o66K, o11, o11Z, o11E, (kn_call fh61 (kn_put eh38) rfl), (by have s1 := num_0 (lo := 0) (hi := 3) p5.2.2.1 p5.2.2.2.2.1 ⟨by (first | decide +kernel | omega), by (first | decide +kernel | omega)⟩; have s2 := x_c4_s (T 5 (x_vl b tZ)); exact Or.inr ⟨tc_0, Or.inr ⟨by (first | decide +kernel | omega), by (first | decide +kernel | omega), by (first | decide +kernel | omega)⟩, by (first | decide +kernel | omega)⟩)⟩⟩
                  ·
                    refine V_iconst 1 d_Reader_readNumber_155 (by decide) ?_
                    refine V_goto 160 d_Reader_readNumber_156 (by decide) ?_
                    exact V_zret rfl (by decide) d_Reader_readNumber_160 ⟨1, rfl, ⟨hI63, f64, o8, o8Z, o8E, (kn_call fh61 (kn_ne eh38 (kn_call fh15 o8K rfl) (by decide)) rfl), o9, o9Z, o9E, (kn_call fh61 (kn_ne eh38 (kn_call fh15 o9K rfl) (by decide)) rfl), o10, o10Z, o10E, (kn_call fh61 (kn_ne eh38 (kn_call fh15 o10K rfl) (by decide)) rfl), o11, o11Z, o11E, (kn_call fh61 (kn_ne eh38 (kn_call fh15 o11K rfl) (by decide)) rfl), o65, o65Z, o65E, o65K, o66, o66Z, o66E, o66K, o11, o11Z, o11E, (kn_call fh61 (kn_put eh38) rfl), (by have s1 := num_0 (lo := 0) (hi := 3) p5.2.2.1 p5.2.2.2.2.1 ⟨by (first | decide +kernel | omega), by (first | decide +kernel | omega)⟩; have s2 := x_c4_s (T 5 (x_vl b tZ)); exact Or.inl ⟨rfl, by (first | decide +kernel | omega), by (first | decide +kernel | omega), by (first | decide +kernel | omega), by (first | decide +kernel | omega), by (first | decide +kernel | omega), by (first | decide +kernel | omega), by (first | decide +kernel | omega), by (first | decide +kernel | omega)⟩)⟩⟩
                ·
                  exact absurd c59 (by decide)
              ·
                exact absurd c58 (by decide)
      ·
        refine V_aload_n 0 d_Reader_readNumber_51 rfl rfl ?_
        refine V_iconst 3 d_Reader_readNumber_52 (by decide) ?_
        refine V_aload_n 0 d_Reader_readNumber_53 rfl rfl ?_
        refine V_getR fa_Reader_12 sk_88 rfl d_Reader_readNumber_54 ?_
        refine N_getK fa_Reader_81 sk_89 rfl d_Reader_readNumber_57 (kn_call fh15 o9K rfl) ?_
        refine N_callVI [.int 3, .int o9] [] cv_Reader_64 sk_88 rfl d_Reader_readNumber_60 rfl (Nat.le_of_ble_eq_true rfl) (by decide) (by decide) (c_Reader_isRefusedX h15 hI17 3 3 tc_3 o9 o9Z o9E) (fun z68 h69 z68Z z68E p70 => ?_)
        obtain ⟨hI71, fh69, o73, o73Z, o73E, o73K, o74, o74Z, o74E, o74K, p70⟩ := p70
        have f72 : fr S_Reader_readNumberX_5_0 h h69 := fr_call f18 fh69 rfl
        obtain ⟨z75, z75Z, z75E, z75e⟩ : ∃ (y : Int32) (Y : Int), y.toInt = Y ∧ y = h69.1 91 0 := ⟨_, _, rfl, rfl⟩
        exact V_zret rfl (by rw [z68E]; omega) d_Reader_readNumber_63 ⟨z68, rfl, ⟨hI71, f72, o8, o8Z, o8E, (kn_call fh69 (kn_call fh15 o8K rfl) rfl), o9, o9Z, o9E, (kn_call fh69 (kn_call fh15 o9K rfl) rfl), o10, o10Z, o10E, (kn_call fh69 (kn_call fh15 o10K rfl) rfl), o11, o11Z, o11E, (kn_call fh69 (kn_call fh15 o11K rfl) rfl), o73, o73Z, o73E, o73K, o74, o74Z, o74E, o74K, z75, z75Z, z75E, z75e.symm, (by have s1 := num_3 (lo := 0) (hi := 3) p5.2.2.1 p5.2.2.2.2.1 (by (first | decide +kernel | omega)); exact Or.inr ⟨by (first | decide +kernel | omega), Or.inl ⟨by (first | decide +kernel | omega), by (first | decide +kernel | omega)⟩, by (first | decide +kernel | omega)⟩)⟩⟩
  ·
    have hk9 := num_k 0 3 p5 p16 (by (first | decide +kernel | omega))
    refine V_iconst 0 d_Reader_readNumber_15 (by decide) ?_
    obtain ⟨z76, z76Z, z76E, z76e⟩ : ∃ (y : Int32) (Y : Int), y.toInt = Y ∧ y = h15.1 91 0 := ⟨_, _, rfl, rfl⟩
    exact V_zret rfl (by decide) d_Reader_readNumber_16 ⟨0, rfl, ⟨hI17, f18, o8, o8Z, o8E, (kn_call fh15 o8K rfl), o9, o9Z, o9E, (kn_call fh15 o9K rfl), o10, o10Z, o10E, (kn_call fh15 o10K rfl), o11, o11Z, o11E, (kn_call fh15 o11K rfl), o19, o19Z, o19E, o19K, o20, o20Z, o20E, o20K, z76, z76Z, z76E, z76e.symm, (Or.inr ⟨tc_0, Or.inl ⟨hk9.1, hk9.2.1⟩, hk9.2.2⟩)⟩⟩
def S_Reader_readNumberX_5_1 : List (Nat × Option Nat) := [(89, some 2), (89, some 3), (89, some 4), (89, some 5), (88, some 5), (88, some 6), (91, some 1)]
abbrev q_Reader_readNumberX_5_1 (h : Hp) (b : Int → Int) (T : Nat → Int → Int) (s : Int32) (sZ : Int) (t : Int32) (tZ : Int) (a : Int32) (aZ : Int) (w : Int32) (wZ : Int) : Option Value → Hp → Prop := pInt (fun r h' => Inv h' ∧ fr S_Reader_readNumberX_5_1 h h' ∧ ∃ (k : Int32) (kZ : Int), k.toInt = kZ ∧ h'.1 89 2 = k ∧ ∃ (f : Int32) (fZ : Int), f.toInt = fZ ∧ h'.1 89 3 = f ∧ ∃ (u : Int32) (uZ : Int), u.toInt = uZ ∧ h'.1 89 4 = u ∧ ∃ (v : Int32) (vZ : Int), v.toInt = vZ ∧ h'.1 89 5 = v ∧ ∃ (e : Int32) (eZ : Int), e.toInt = eZ ∧ h'.1 88 6 = e ∧ ∃ (y : Int32) (yZ : Int), y.toInt = yZ ∧ h'.1 88 5 = y ∧ ∃ (x : Int32) (xZ : Int), x.toInt = xZ ∧ h'.1 91 1 = x ∧ (r.toInt = 1 ∧ x_cN b tZ 0 99 = 0 ∧ uZ = x_en b tZ ∧ xZ = x_vl b tZ ∧ eZ = wZ ∧ yZ = aZ ∧ tZ < uZ ∧ uZ ≤ sZ ∨ r.toInt = 0 ∧ (x_cN b tZ 0 99 ≠ 0 ∧ eZ = x_cN b tZ 0 99) ∧ yZ = x_fr b tZ))
set_option maxRecDepth 100000 in
theorem c_Reader_readNumberX_5_1 (h : Hp) (b : Int → Int) (T : Nat → Int → Int) (hI : Inv h) (s : Int32) (sZ : Int) (sE : s.toInt = sZ) (sK : h.1 89 1 = s) (t : Int32) (tZ : Int) (tE : t.toInt = tZ) (tK : h.1 89 4 = t) (a : Int32) (aZ : Int) (aE : a.toInt = aZ) (aK : h.1 88 5 = a) (w : Int32) (wZ : Int) (wE : w.toInt = wZ) (wK : h.1 88 6 = w) (hy0 : TP h 90 sZ b) (hy1 : 0 ≤ tZ ∧ tZ ≤ sZ) : Ct y_Reader_readNumber b_Reader_readNumber 6 (some .boolean) 3 60 [.ref 88, .int 5, .int 1] h (q_Reader_readNumberX_5_1 h b T s sZ t tZ a aZ w wZ) := by
  refine ct_ow R_Reader [some (.ref 88), some (.int 5), some (.int 1), none, none, none] rfl (by decide) rfl (Nat.le_of_ble_eq_true rfl) ?_
  have f0 : fr S_Reader_readNumberX_5_1 h h := fr_rf
  have g1 : 0 ≤ sZ ∧ sZ ≤ 160 := inv_at hI sE sK.symm rfl
  have g2 : 0 ≤ tZ ∧ tZ ≤ 160 := inv_at hI tE tK.symm rfl
  refine V_aload_n 0 d_Reader_readNumber_0 rfl rfl ?_
  refine V_getR fa_Reader_12 sk_88 rfl d_Reader_readNumber_1 ?_
  refine N_callVV [] [] cv_Reader_48 sk_89 rfl d_Reader_readNumber_4 rfl (Nat.le_of_ble_eq_true rfl) (by decide) (by decide) (c_Tape_advanceX h b hI s sZ sE sK t tZ tE tK (TP_fr f0 (fun _ => rfl) hy0) (by (first | decide +kernel | omega))) (fun h4 p5 => ?_)
  obtain ⟨hI6, fh4, o8, o8Z, o8E, o8K, o9, o9Z, o9E, o9K, o10, o10Z, o10E, o10K, o11, o11Z, o11E, o11K, p5⟩ := p5
  have f7 : fr S_Reader_readNumberX_5_1 h h4 := fr_call f0 fh4 rfl
  have g12 : 0 ≤ o9Z ∧ o9Z ≤ 160 := inv_at hI6 o9E o9K.symm rfl
  have g13 : 0 ≤ o10Z ∧ o10Z ≤ 160 := inv_at hI6 o10E o10K.symm rfl
  refine V_aload_n 0 d_Reader_readNumber_7 rfl rfl ?_
  refine V_iconst 2 d_Reader_readNumber_8 (by decide) ?_
  refine N_callVI [.int 2] [] cv_Reader_84 sk_88 rfl d_Reader_readNumber_9 rfl (Nat.le_of_ble_eq_true rfl) (by decide) (by decide) (c_Reader_isKindX h4 hI6 2 2 tc_2 o8 o8Z o8E o8K o9 o9Z o9E o9K a aZ aE (kn_call fh4 aK rfl) w wZ wE (kn_call fh4 wK rfl)) (fun z14 h15 z14Z z14E p16 => ?_)
  obtain ⟨hI17, fh15, o19, o19Z, o19E, o19K, o20, o20Z, o20E, o20K, p16⟩ := p16
  have f18 : fr S_Reader_readNumberX_5_1 h h15 := fr_call f7 fh15 rfl
  refine V_if_ne 17 z14E d_Reader_readNumber_12 (by decide) (fun c21 => ?_) (fun c21 => ?_)
  ·
    replace p16 := kd_y p16 (by (first | decide +kernel | omega))
    replace p5 := adv_2 p5 (by (first | decide +kernel | omega))
    refine V_aload_n 0 d_Reader_readNumber_17 rfl rfl ?_
    refine V_getR fa_Reader_12 sk_88 rfl d_Reader_readNumber_18 ?_
    refine N_getK fa_Reader_122 sk_89 rfl d_Reader_readNumber_21 (kn_call fh15 o11K rfl) ?_
    refine V_istore_n 3 [some (.ref 88), some (.int 5), some (.int 1), some (.int o11), none, none] d_Reader_readNumber_24 rfl (by decide) rfl rfl ?_
    refine V_iload_n 3 d_Reader_readNumber_25 rfl rfl ?_
    refine V_gets (v := .ref 133) zL ws_Reader_125 d_Reader_readNumber_26 ?_
    refine V_iconst 3 d_Reader_readNumber_29 (by decide) ?_
    refine V_iload_n 1 d_Reader_readNumber_30 rfl rfl ?_
    refine V_imulw d_Reader_readNumber_31 (fun z22 z22e => ?_)
    obtain rfl : z22 = 15 := z22e.trans (by decide)
    refine V_iload_n 2 d_Reader_readNumber_32 rfl rfl ?_
    refine V_iaddw d_Reader_readNumber_33 (fun z23 z23e => ?_)
    obtain rfl : z23 = 16 := z23e.trans (by decide)
    refine V_tald roL tc_16 (by decide) d_Reader_readNumber_34 (fun z24 z24Z z24E z24e => ?_)
    obtain rfl : z24 = 0 := z24e.trans rfl
    refine V_icmp_lt 51 o11E tc_0 d_Reader_readNumber_35 (by decide) (fun c25 => ?_) (fun c25 => ?_)
    ·
      refine V_aload_n 0 d_Reader_readNumber_51 rfl rfl ?_
      refine V_iconst 3 d_Reader_readNumber_52 (by decide) ?_
      refine V_aload_n 0 d_Reader_readNumber_53 rfl rfl ?_
      refine V_getR fa_Reader_12 sk_88 rfl d_Reader_readNumber_54 ?_
      refine N_getK fa_Reader_81 sk_89 rfl d_Reader_readNumber_57 (kn_call fh15 o9K rfl) ?_
      refine N_callVI [.int 3, .int o9] [] cv_Reader_64 sk_88 rfl d_Reader_readNumber_60 rfl (Nat.le_of_ble_eq_true rfl) (by decide) (by decide) (c_Reader_isRefusedX h15 hI17 3 3 tc_3 o9 o9Z o9E) (fun z26 h27 z26Z z26E p28 => ?_)
      obtain ⟨hI29, fh27, o31, o31Z, o31E, o31K, o32, o32Z, o32E, o32K, p28⟩ := p28
      have f30 : fr S_Reader_readNumberX_5_1 h h27 := fr_call f18 fh27 rfl
      obtain ⟨z33, z33Z, z33E, z33e⟩ : ∃ (y : Int32) (Y : Int), y.toInt = Y ∧ y = h27.1 91 1 := ⟨_, _, rfl, rfl⟩
      exact V_zret rfl (by rw [z26E]; omega) d_Reader_readNumber_63 ⟨z26, rfl, ⟨hI29, f30, o8, o8Z, o8E, (kn_call fh27 (kn_call fh15 o8K rfl) rfl), o9, o9Z, o9E, (kn_call fh27 (kn_call fh15 o9K rfl) rfl), o10, o10Z, o10E, (kn_call fh27 (kn_call fh15 o10K rfl) rfl), o11, o11Z, o11E, (kn_call fh27 (kn_call fh15 o11K rfl) rfl), o31, o31Z, o31E, o31K, o32, o32Z, o32E, o32K, z33, z33Z, z33E, z33e.symm, (by have s1 := num_3 (lo := 0) (hi := 99) p5.2.2.1 p5.2.2.2.2.1 (by (first | decide +kernel | omega)); exact Or.inr ⟨by (first | decide +kernel | omega), ⟨by (first | decide +kernel | omega), by (first | decide +kernel | omega)⟩, by (first | decide +kernel | omega)⟩)⟩⟩
    ·
      refine V_iload_n 3 d_Reader_readNumber_38 rfl rfl ?_
      refine V_gets (v := .ref 134) zM ws_Reader_128 d_Reader_readNumber_39 ?_
      refine V_iconst 3 d_Reader_readNumber_42 (by decide) ?_
      refine V_iload_n 1 d_Reader_readNumber_43 rfl rfl ?_
      refine V_imulw d_Reader_readNumber_44 (fun z34 z34e => ?_)
      obtain rfl : z34 = 15 := z34e.trans (by decide)
      refine V_iload_n 2 d_Reader_readNumber_45 rfl rfl ?_
      refine V_iaddw d_Reader_readNumber_46 (fun z35 z35e => ?_)
      obtain rfl : z35 = 16 := z35e.trans (by decide)
      refine V_tald roM tc_16 (by decide) d_Reader_readNumber_47 (fun z36 z36Z z36E z36e => ?_)
      obtain rfl : z36 = 99 := z36e.trans rfl
      refine V_icmp_le 64 o11E tc_99 d_Reader_readNumber_48 (by decide) (fun c37 => ?_) (fun c37 => ?_)
      ·
        refine V_aload_n 0 d_Reader_readNumber_64 rfl rfl ?_
        refine V_getR fa_Reader_25 sk_88 rfl d_Reader_readNumber_65 ?_
        refine V_iload_n 2 d_Reader_readNumber_68 rfl rfl ?_
        refine V_iload_n 3 d_Reader_readNumber_69 rfl rfl ?_
        refine N_iast sk_91 tc_1 (by (first | decide +kernel | omega)) d_Reader_readNumber_70 (fun h38 eh38 => ?_)
        have hI39 : Inv h38 := inv_full hI17 eh38 rfl
        have f40 : fr S_Reader_readNumberX_5_1 h h38 := fr_put f18 eh38 rfl
        refine V_iload_n 2 d_Reader_readNumber_71 rfl rfl ?_
        refine V_if_ne 99 tc_1 d_Reader_readNumber_72 (by decide) (fun c41 => ?_) (fun c41 => ?_)
        ·
          refine V_iconst 0 d_Reader_readNumber_99 (by decide) ?_
          refine V_istore 4 [some (.ref 88), some (.int 5), some (.int 1), some (.int o11), some (.int 0), none] d_Reader_readNumber_100 (by decide) rfl rfl ?_
          refine V_iload_n 2 d_Reader_readNumber_102 rfl rfl ?_
          refine V_iconst 1 d_Reader_readNumber_103 (by decide) ?_
          refine V_icmp_ne 127 tc_1 tc_1 d_Reader_readNumber_104 (by decide) (fun c42 => ?_) (fun c42 => ?_)
          ·
            exact absurd c42 (by decide)
          ·
            refine V_iload_n 1 d_Reader_readNumber_107 rfl rfl ?_
            refine V_bipush 9 d_Reader_readNumber_108 (by decide) ?_
            refine V_icmp_ne 127 tc_5 tc_9 d_Reader_readNumber_110 (by decide) (fun c43 => ?_) (fun c43 => ?_)
            ·
              refine V_iconst 0 d_Reader_readNumber_127 (by decide) ?_
              refine V_istore 5 [some (.ref 88), some (.int 5), some (.int 1), some (.int o11), some (.int 0), some (.int 0)] d_Reader_readNumber_128 (by decide) rfl rfl ?_
              refine V_iload d_Reader_readNumber_130 rfl ?_
              refine V_if_ne 140 tc_0 d_Reader_readNumber_132 (by decide) (fun c44 => ?_) (fun c44 => ?_)
              ·
                exact absurd c44 (by decide)
              ·
                refine V_iload d_Reader_readNumber_135 rfl ?_
                refine V_if_eq 155 tc_0 d_Reader_readNumber_137 (by decide) (fun c45 => ?_) (fun c45 => ?_)
                ·
                  refine V_iconst 1 d_Reader_readNumber_155 (by decide) ?_
                  refine V_goto 160 d_Reader_readNumber_156 (by decide) ?_
                  exact V_zret rfl (by decide) d_Reader_readNumber_160 ⟨1, rfl, ⟨hI39, f40, o8, o8Z, o8E, (kn_ne eh38 (kn_call fh15 o8K rfl) (by decide)), o9, o9Z, o9E, (kn_ne eh38 (kn_call fh15 o9K rfl) (by decide)), o10, o10Z, o10E, (kn_ne eh38 (kn_call fh15 o10K rfl) (by decide)), o11, o11Z, o11E, (kn_ne eh38 (kn_call fh15 o11K rfl) (by decide)), o19, o19Z, o19E, (kn_ne eh38 o19K (by decide)), o20, o20Z, o20E, (kn_ne eh38 o20K (by decide)), o11, o11Z, o11E, (kn_put eh38), (by have s1 := num_0 (lo := 0) (hi := 99) p5.2.2.1 p5.2.2.2.2.1 ⟨by (first | decide +kernel | omega), by (first | decide +kernel | omega)⟩; exact Or.inl ⟨rfl, by (first | decide +kernel | omega), by (first | decide +kernel | omega), by (first | decide +kernel | omega), by (first | decide +kernel | omega), by (first | decide +kernel | omega), by (first | decide +kernel | omega), by (first | decide +kernel | omega)⟩)⟩⟩
                ·
                  exact absurd c45 (by decide)
            ·
              exact absurd c43 (by decide)
        ·
          exact absurd c41 (by decide)
      ·
        refine V_aload_n 0 d_Reader_readNumber_51 rfl rfl ?_
        refine V_iconst 3 d_Reader_readNumber_52 (by decide) ?_
        refine V_aload_n 0 d_Reader_readNumber_53 rfl rfl ?_
        refine V_getR fa_Reader_12 sk_88 rfl d_Reader_readNumber_54 ?_
        refine N_getK fa_Reader_81 sk_89 rfl d_Reader_readNumber_57 (kn_call fh15 o9K rfl) ?_
        refine N_callVI [.int 3, .int o9] [] cv_Reader_64 sk_88 rfl d_Reader_readNumber_60 rfl (Nat.le_of_ble_eq_true rfl) (by decide) (by decide) (c_Reader_isRefusedX h15 hI17 3 3 tc_3 o9 o9Z o9E) (fun z46 h47 z46Z z46E p48 => ?_)
        obtain ⟨hI49, fh47, o51, o51Z, o51E, o51K, o52, o52Z, o52E, o52K, p48⟩ := p48
        have f50 : fr S_Reader_readNumberX_5_1 h h47 := fr_call f18 fh47 rfl
        obtain ⟨z53, z53Z, z53E, z53e⟩ : ∃ (y : Int32) (Y : Int), y.toInt = Y ∧ y = h47.1 91 1 := ⟨_, _, rfl, rfl⟩
        exact V_zret rfl (by rw [z46E]; omega) d_Reader_readNumber_63 ⟨z46, rfl, ⟨hI49, f50, o8, o8Z, o8E, (kn_call fh47 (kn_call fh15 o8K rfl) rfl), o9, o9Z, o9E, (kn_call fh47 (kn_call fh15 o9K rfl) rfl), o10, o10Z, o10E, (kn_call fh47 (kn_call fh15 o10K rfl) rfl), o11, o11Z, o11E, (kn_call fh47 (kn_call fh15 o11K rfl) rfl), o51, o51Z, o51E, o51K, o52, o52Z, o52E, o52K, z53, z53Z, z53E, z53e.symm, (by have s1 := num_3 (lo := 0) (hi := 99) p5.2.2.1 p5.2.2.2.2.1 (by (first | decide +kernel | omega)); exact Or.inr ⟨by (first | decide +kernel | omega), ⟨by (first | decide +kernel | omega), by (first | decide +kernel | omega)⟩, by (first | decide +kernel | omega)⟩)⟩⟩
  ·
    have hk9 := num_k 0 99 p5 p16 (by (first | decide +kernel | omega))
    refine V_iconst 0 d_Reader_readNumber_15 (by decide) ?_
    obtain ⟨z54, z54Z, z54E, z54e⟩ : ∃ (y : Int32) (Y : Int), y.toInt = Y ∧ y = h15.1 91 1 := ⟨_, _, rfl, rfl⟩
    exact V_zret rfl (by decide) d_Reader_readNumber_16 ⟨0, rfl, ⟨hI17, f18, o8, o8Z, o8E, (kn_call fh15 o8K rfl), o9, o9Z, o9E, (kn_call fh15 o9K rfl), o10, o10Z, o10E, (kn_call fh15 o10K rfl), o11, o11Z, o11E, (kn_call fh15 o11K rfl), o19, o19Z, o19E, o19K, o20, o20Z, o20E, o20K, z54, z54Z, z54E, z54e.symm, (Or.inr ⟨tc_0, ⟨hk9.1, hk9.2.1⟩, hk9.2.2⟩)⟩⟩
def S_Reader_readNumberX_6_0 : List (Nat × Option Nat) := [(89, some 2), (89, some 3), (89, some 4), (89, some 5), (88, some 5), (88, some 6), (91, some 0)]
abbrev q_Reader_readNumberX_6_0 (h : Hp) (b : Int → Int) (T : Nat → Int → Int) (s : Int32) (sZ : Int) (t : Int32) (tZ : Int) (a : Int32) (aZ : Int) (w : Int32) (wZ : Int) : Option Value → Hp → Prop := pInt (fun r h' => Inv h' ∧ fr S_Reader_readNumberX_6_0 h h' ∧ ∃ (k : Int32) (kZ : Int), k.toInt = kZ ∧ h'.1 89 2 = k ∧ ∃ (f : Int32) (fZ : Int), f.toInt = fZ ∧ h'.1 89 3 = f ∧ ∃ (u : Int32) (uZ : Int), u.toInt = uZ ∧ h'.1 89 4 = u ∧ ∃ (v : Int32) (vZ : Int), v.toInt = vZ ∧ h'.1 89 5 = v ∧ ∃ (e : Int32) (eZ : Int), e.toInt = eZ ∧ h'.1 88 6 = e ∧ ∃ (y : Int32) (yZ : Int), y.toInt = yZ ∧ h'.1 88 5 = y ∧ ∃ (x : Int32) (xZ : Int), x.toInt = xZ ∧ h'.1 91 0 = x ∧ (r.toInt = 1 ∧ x_cN b tZ 1 9 = 0 ∧ uZ = x_en b tZ ∧ xZ = x_vl b tZ ∧ eZ = wZ ∧ yZ = aZ ∧ tZ < uZ ∧ uZ ≤ sZ ∨ r.toInt = 0 ∧ (x_cN b tZ 1 9 ≠ 0 ∧ eZ = x_cN b tZ 1 9) ∧ yZ = x_fr b tZ))
set_option maxRecDepth 100000 in
theorem c_Reader_readNumberX_6_0 (h : Hp) (b : Int → Int) (T : Nat → Int → Int) (hI : Inv h) (s : Int32) (sZ : Int) (sE : s.toInt = sZ) (sK : h.1 89 1 = s) (t : Int32) (tZ : Int) (tE : t.toInt = tZ) (tK : h.1 89 4 = t) (a : Int32) (aZ : Int) (aE : a.toInt = aZ) (aK : h.1 88 5 = a) (w : Int32) (wZ : Int) (wE : w.toInt = wZ) (wK : h.1 88 6 = w) (hy0 : TP h 90 sZ b) (hy1 : 0 ≤ tZ ∧ tZ ≤ sZ) : Ct y_Reader_readNumber b_Reader_readNumber 6 (some .boolean) 3 60 [.ref 88, .int 6, .int 0] h (q_Reader_readNumberX_6_0 h b T s sZ t tZ a aZ w wZ) := by
  refine ct_ow R_Reader [some (.ref 88), some (.int 6), some (.int 0), none, none, none] rfl (by decide) rfl (Nat.le_of_ble_eq_true rfl) ?_
  have f0 : fr S_Reader_readNumberX_6_0 h h := fr_rf
  have g1 : 0 ≤ sZ ∧ sZ ≤ 160 := inv_at hI sE sK.symm rfl
  have g2 : 0 ≤ tZ ∧ tZ ≤ 160 := inv_at hI tE tK.symm rfl
  refine V_aload_n 0 d_Reader_readNumber_0 rfl rfl ?_
  refine V_getR fa_Reader_12 sk_88 rfl d_Reader_readNumber_1 ?_
  refine N_callVV [] [] cv_Reader_48 sk_89 rfl d_Reader_readNumber_4 rfl (Nat.le_of_ble_eq_true rfl) (by decide) (by decide) (c_Tape_advanceX h b hI s sZ sE sK t tZ tE tK (TP_fr f0 (fun _ => rfl) hy0) (by (first | decide +kernel | omega))) (fun h4 p5 => ?_)
  obtain ⟨hI6, fh4, o8, o8Z, o8E, o8K, o9, o9Z, o9E, o9K, o10, o10Z, o10E, o10K, o11, o11Z, o11E, o11K, p5⟩ := p5
  have f7 : fr S_Reader_readNumberX_6_0 h h4 := fr_call f0 fh4 rfl
  have g12 : 0 ≤ o9Z ∧ o9Z ≤ 160 := inv_at hI6 o9E o9K.symm rfl
  have g13 : 0 ≤ o10Z ∧ o10Z ≤ 160 := inv_at hI6 o10E o10K.symm rfl
  refine V_aload_n 0 d_Reader_readNumber_7 rfl rfl ?_
  refine V_iconst 2 d_Reader_readNumber_8 (by decide) ?_
  refine N_callVI [.int 2] [] cv_Reader_84 sk_88 rfl d_Reader_readNumber_9 rfl (Nat.le_of_ble_eq_true rfl) (by decide) (by decide) (c_Reader_isKindX h4 hI6 2 2 tc_2 o8 o8Z o8E o8K o9 o9Z o9E o9K a aZ aE (kn_call fh4 aK rfl) w wZ wE (kn_call fh4 wK rfl)) (fun z14 h15 z14Z z14E p16 => ?_)
  obtain ⟨hI17, fh15, o19, o19Z, o19E, o19K, o20, o20Z, o20E, o20K, p16⟩ := p16
  have f18 : fr S_Reader_readNumberX_6_0 h h15 := fr_call f7 fh15 rfl
  refine V_if_ne 17 z14E d_Reader_readNumber_12 (by decide) (fun c21 => ?_) (fun c21 => ?_)
  ·
    replace p16 := kd_y p16 (by (first | decide +kernel | omega))
    replace p5 := adv_2 p5 (by (first | decide +kernel | omega))
    refine V_aload_n 0 d_Reader_readNumber_17 rfl rfl ?_
    refine V_getR fa_Reader_12 sk_88 rfl d_Reader_readNumber_18 ?_
    refine N_getK fa_Reader_122 sk_89 rfl d_Reader_readNumber_21 (kn_call fh15 o11K rfl) ?_
    refine V_istore_n 3 [some (.ref 88), some (.int 6), some (.int 0), some (.int o11), none, none] d_Reader_readNumber_24 rfl (by decide) rfl rfl ?_
    refine V_iload_n 3 d_Reader_readNumber_25 rfl rfl ?_
    refine V_gets (v := .ref 133) zL ws_Reader_125 d_Reader_readNumber_26 ?_
    refine V_iconst 3 d_Reader_readNumber_29 (by decide) ?_
    refine V_iload_n 1 d_Reader_readNumber_30 rfl rfl ?_
    refine V_imulw d_Reader_readNumber_31 (fun z22 z22e => ?_)
    obtain rfl : z22 = 18 := z22e.trans (by decide)
    refine V_iload_n 2 d_Reader_readNumber_32 rfl rfl ?_
    refine V_iaddw d_Reader_readNumber_33 (fun z23 z23e => ?_)
    obtain rfl : z23 = 18 := z23e.trans (by decide)
    refine V_tald roL tc_18 (by decide) d_Reader_readNumber_34 (fun z24 z24Z z24E z24e => ?_)
    obtain rfl : z24 = 1 := z24e.trans rfl
    refine V_icmp_lt 51 o11E tc_1 d_Reader_readNumber_35 (by decide) (fun c25 => ?_) (fun c25 => ?_)
    ·
      refine V_aload_n 0 d_Reader_readNumber_51 rfl rfl ?_
      refine V_iconst 3 d_Reader_readNumber_52 (by decide) ?_
      refine V_aload_n 0 d_Reader_readNumber_53 rfl rfl ?_
      refine V_getR fa_Reader_12 sk_88 rfl d_Reader_readNumber_54 ?_
      refine N_getK fa_Reader_81 sk_89 rfl d_Reader_readNumber_57 (kn_call fh15 o9K rfl) ?_
      refine N_callVI [.int 3, .int o9] [] cv_Reader_64 sk_88 rfl d_Reader_readNumber_60 rfl (Nat.le_of_ble_eq_true rfl) (by decide) (by decide) (c_Reader_isRefusedX h15 hI17 3 3 tc_3 o9 o9Z o9E) (fun z26 h27 z26Z z26E p28 => ?_)
      obtain ⟨hI29, fh27, o31, o31Z, o31E, o31K, o32, o32Z, o32E, o32K, p28⟩ := p28
      have f30 : fr S_Reader_readNumberX_6_0 h h27 := fr_call f18 fh27 rfl
      obtain ⟨z33, z33Z, z33E, z33e⟩ : ∃ (y : Int32) (Y : Int), y.toInt = Y ∧ y = h27.1 91 0 := ⟨_, _, rfl, rfl⟩
      exact V_zret rfl (by rw [z26E]; omega) d_Reader_readNumber_63 ⟨z26, rfl, ⟨hI29, f30, o8, o8Z, o8E, (kn_call fh27 (kn_call fh15 o8K rfl) rfl), o9, o9Z, o9E, (kn_call fh27 (kn_call fh15 o9K rfl) rfl), o10, o10Z, o10E, (kn_call fh27 (kn_call fh15 o10K rfl) rfl), o11, o11Z, o11E, (kn_call fh27 (kn_call fh15 o11K rfl) rfl), o31, o31Z, o31E, o31K, o32, o32Z, o32E, o32K, z33, z33Z, z33E, z33e.symm, (by have s1 := num_3 (lo := 1) (hi := 9) p5.2.2.1 p5.2.2.2.2.1 (by (first | decide +kernel | omega)); exact Or.inr ⟨by (first | decide +kernel | omega), ⟨by (first | decide +kernel | omega), by (first | decide +kernel | omega)⟩, by (first | decide +kernel | omega)⟩)⟩⟩
    ·
      refine V_iload_n 3 d_Reader_readNumber_38 rfl rfl ?_
      refine V_gets (v := .ref 134) zM ws_Reader_128 d_Reader_readNumber_39 ?_
      refine V_iconst 3 d_Reader_readNumber_42 (by decide) ?_
      refine V_iload_n 1 d_Reader_readNumber_43 rfl rfl ?_
      refine V_imulw d_Reader_readNumber_44 (fun z34 z34e => ?_)
      obtain rfl : z34 = 18 := z34e.trans (by decide)
      refine V_iload_n 2 d_Reader_readNumber_45 rfl rfl ?_
      refine V_iaddw d_Reader_readNumber_46 (fun z35 z35e => ?_)
      obtain rfl : z35 = 18 := z35e.trans (by decide)
      refine V_tald roM tc_18 (by decide) d_Reader_readNumber_47 (fun z36 z36Z z36E z36e => ?_)
      obtain rfl : z36 = 9 := z36e.trans rfl
      refine V_icmp_le 64 o11E tc_9 d_Reader_readNumber_48 (by decide) (fun c37 => ?_) (fun c37 => ?_)
      ·
        refine V_aload_n 0 d_Reader_readNumber_64 rfl rfl ?_
        refine V_getR fa_Reader_25 sk_88 rfl d_Reader_readNumber_65 ?_
        refine V_iload_n 2 d_Reader_readNumber_68 rfl rfl ?_
        refine V_iload_n 3 d_Reader_readNumber_69 rfl rfl ?_
        refine N_iast sk_91 tc_0 (by (first | decide +kernel | omega)) d_Reader_readNumber_70 (fun h38 eh38 => ?_)
        have hI39 : Inv h38 := inv_full hI17 eh38 rfl
        have f40 : fr S_Reader_readNumberX_6_0 h h38 := fr_put f18 eh38 rfl
        refine V_iload_n 2 d_Reader_readNumber_71 rfl rfl ?_
        refine V_if_ne 99 tc_0 d_Reader_readNumber_72 (by decide) (fun c41 => ?_) (fun c41 => ?_)
        ·
          exact absurd c41 (by decide)
        ·
          refine V_iload_n 1 d_Reader_readNumber_75 rfl rfl ?_
          refine N_callSI [.int 6] [] cs_Reader_131 d_Reader_readNumber_76 rfl (Nat.le_of_ble_eq_true rfl) (by decide) (by decide) (c_Reader_isOfOneX_6 h38) (fun z42 h43 z42Z z42E p44 => ?_)
          obtain ⟨eh43, p44⟩ := p44
          subst eh43
          refine V_if_eq 99 z42E d_Reader_readNumber_79 (by decide) (fun c45 => ?_) (fun c45 => ?_)
          ·
            refine V_iconst 0 d_Reader_readNumber_99 (by decide) ?_
            refine V_istore 4 [some (.ref 88), some (.int 6), some (.int 0), some (.int o11), some (.int 0), none] d_Reader_readNumber_100 (by decide) rfl rfl ?_
            refine V_iload_n 2 d_Reader_readNumber_102 rfl rfl ?_
            refine V_iconst 1 d_Reader_readNumber_103 (by decide) ?_
            refine V_icmp_ne 127 tc_0 tc_1 d_Reader_readNumber_104 (by decide) (fun c46 => ?_) (fun c46 => ?_)
            ·
              refine V_iconst 0 d_Reader_readNumber_127 (by decide) ?_
              refine V_istore 5 [some (.ref 88), some (.int 6), some (.int 0), some (.int o11), some (.int 0), some (.int 0)] d_Reader_readNumber_128 (by decide) rfl rfl ?_
              refine V_iload d_Reader_readNumber_130 rfl ?_
              refine V_if_ne 140 tc_0 d_Reader_readNumber_132 (by decide) (fun c47 => ?_) (fun c47 => ?_)
              ·
                exact absurd c47 (by decide)
              ·
                refine V_iload d_Reader_readNumber_135 rfl ?_
                refine V_if_eq 155 tc_0 d_Reader_readNumber_137 (by decide) (fun c48 => ?_) (fun c48 => ?_)
                ·
                  refine V_iconst 1 d_Reader_readNumber_155 (by decide) ?_
                  refine V_goto 160 d_Reader_readNumber_156 (by decide) ?_
                  exact V_zret rfl (by decide) d_Reader_readNumber_160 ⟨1, rfl, ⟨hI39, f40, o8, o8Z, o8E, (kn_ne eh38 (kn_call fh15 o8K rfl) (by decide)), o9, o9Z, o9E, (kn_ne eh38 (kn_call fh15 o9K rfl) (by decide)), o10, o10Z, o10E, (kn_ne eh38 (kn_call fh15 o10K rfl) (by decide)), o11, o11Z, o11E, (kn_ne eh38 (kn_call fh15 o11K rfl) (by decide)), o19, o19Z, o19E, (kn_ne eh38 o19K (by decide)), o20, o20Z, o20E, (kn_ne eh38 o20K (by decide)), o11, o11Z, o11E, (kn_put eh38), (by have s1 := num_0 (lo := 1) (hi := 9) p5.2.2.1 p5.2.2.2.2.1 ⟨by (first | decide +kernel | omega), by (first | decide +kernel | omega)⟩; exact Or.inl ⟨rfl, by (first | decide +kernel | omega), by (first | decide +kernel | omega), by (first | decide +kernel | omega), by (first | decide +kernel | omega), by (first | decide +kernel | omega), by (first | decide +kernel | omega), by (first | decide +kernel | omega)⟩)⟩⟩
                ·
                  exact absurd c48 (by decide)
            ·
              exact absurd c46 (by decide)
          ·
            refine V_aload_n 0 d_Reader_readNumber_82 rfl rfl ?_
            refine V_getR fa_Reader_29 sk_88 rfl d_Reader_readNumber_83 ?_
            refine V_iload_n 1 d_Reader_readNumber_86 rfl rfl ?_
            refine N_iald sk_92 tc_6 (by (first | decide +kernel | omega)) d_Reader_readNumber_87 (fun z49 z49Z z49E z49e => ?_)
            refine V_iload_n 3 d_Reader_readNumber_88 rfl rfl ?_
            refine N_ishr d_Reader_readNumber_89 (fun z50 z50Z z50E z50e => ?_)
            refine V_iconst 1 d_Reader_readNumber_90 (by decide) ?_
            refine N_iand d_Reader_readNumber_91 (fun z51 z51Z z51E z51e => ?_)
            refine V_if_eq 99 z51E d_Reader_readNumber_92 (by decide) (fun c52 => ?_) (fun c52 => ?_)
            ·
              refine V_iconst 0 d_Reader_readNumber_99 (by decide) ?_
              refine V_istore 4 [some (.ref 88), some (.int 6), some (.int 0), some (.int o11), some (.int 0), none] d_Reader_readNumber_100 (by decide) rfl rfl ?_
              refine V_iload_n 2 d_Reader_readNumber_102 rfl rfl ?_
              refine V_iconst 1 d_Reader_readNumber_103 (by decide) ?_
              refine V_icmp_ne 127 tc_0 tc_1 d_Reader_readNumber_104 (by decide) (fun c53 => ?_) (fun c53 => ?_)
              ·
                refine V_iconst 0 d_Reader_readNumber_127 (by decide) ?_
                refine V_istore 5 [some (.ref 88), some (.int 6), some (.int 0), some (.int o11), some (.int 0), some (.int 0)] d_Reader_readNumber_128 (by decide) rfl rfl ?_
                refine V_iload d_Reader_readNumber_130 rfl ?_
                refine V_if_ne 140 tc_0 d_Reader_readNumber_132 (by decide) (fun c54 => ?_) (fun c54 => ?_)
                ·
                  exact absurd c54 (by decide)
                ·
                  refine V_iload d_Reader_readNumber_135 rfl ?_
                  refine V_if_eq 155 tc_0 d_Reader_readNumber_137 (by decide) (fun c55 => ?_) (fun c55 => ?_)
                  ·
                    refine V_iconst 1 d_Reader_readNumber_155 (by decide) ?_
                    refine V_goto 160 d_Reader_readNumber_156 (by decide) ?_
                    exact V_zret rfl (by decide) d_Reader_readNumber_160 ⟨1, rfl, ⟨hI39, f40, o8, o8Z, o8E, (kn_ne eh38 (kn_call fh15 o8K rfl) (by decide)), o9, o9Z, o9E, (kn_ne eh38 (kn_call fh15 o9K rfl) (by decide)), o10, o10Z, o10E, (kn_ne eh38 (kn_call fh15 o10K rfl) (by decide)), o11, o11Z, o11E, (kn_ne eh38 (kn_call fh15 o11K rfl) (by decide)), o19, o19Z, o19E, (kn_ne eh38 o19K (by decide)), o20, o20Z, o20E, (kn_ne eh38 o20K (by decide)), o11, o11Z, o11E, (kn_put eh38), (by have s1 := num_0 (lo := 1) (hi := 9) p5.2.2.1 p5.2.2.2.2.1 ⟨by (first | decide +kernel | omega), by (first | decide +kernel | omega)⟩; exact Or.inl ⟨rfl, by (first | decide +kernel | omega), by (first | decide +kernel | omega), by (first | decide +kernel | omega), by (first | decide +kernel | omega), by (first | decide +kernel | omega), by (first | decide +kernel | omega), by (first | decide +kernel | omega)⟩)⟩⟩
                  ·
                    exact absurd c55 (by decide)
              ·
                exact absurd c53 (by decide)
            ·
              refine V_iconst 1 d_Reader_readNumber_95 (by decide) ?_
              refine V_goto 100 d_Reader_readNumber_96 (by decide) ?_
              refine V_istore 4 [some (.ref 88), some (.int 6), some (.int 0), some (.int o11), some (.int 1), none] d_Reader_readNumber_100 (by decide) rfl rfl ?_
              refine V_iload_n 2 d_Reader_readNumber_102 rfl rfl ?_
              refine V_iconst 1 d_Reader_readNumber_103 (by decide) ?_
              refine V_icmp_ne 127 tc_0 tc_1 d_Reader_readNumber_104 (by decide) (fun c56 => ?_) (fun c56 => ?_)
              ·
                refine V_iconst 0 d_Reader_readNumber_127 (by decide) ?_
                refine V_istore 5 [some (.ref 88), some (.int 6), some (.int 0), some (.int o11), some (.int 1), some (.int 0)] d_Reader_readNumber_128 (by decide) rfl rfl ?_
                refine V_iload d_Reader_readNumber_130 rfl ?_
                refine V_if_ne 140 tc_1 d_Reader_readNumber_132 (by decide) (fun c57 => ?_) (fun c57 => ?_)
                ·
                  refine V_aload_n 0 d_Reader_readNumber_140 rfl rfl ?_
                  refine V_iconst 4 d_Reader_readNumber_141 (by decide) ?_
                  refine V_aload_n 0 d_Reader_readNumber_142 rfl rfl ?_
                  refine V_getR fa_Reader_12 sk_88 rfl d_Reader_readNumber_143 ?_
                  refine N_getK fa_Reader_81 sk_89 rfl d_Reader_readNumber_146 (kn_ne eh38 (kn_call fh15 o9K rfl) (by decide)) ?_
                  refine N_callVI [.int 4, .int o9] [] cv_Reader_64 sk_88 rfl d_Reader_readNumber_149 rfl (Nat.le_of_ble_eq_true rfl) (by decide) (by decide) (c_Reader_isRefusedX h38 hI39 4 4 tc_4 o9 o9Z o9E) (fun z58 h59 z58Z z58E p60 => ?_)
                  obtain ⟨hI61, fh59, o63, o63Z, o63E, o63K, o64, o64Z, o64E, o64K, p60⟩ := p60
                  have f62 : fr S_Reader_readNumberX_6_0 h h59 := fr_call f40 fh59 rfl
                  refine V_if_eq 159 z58E d_Reader_readNumber_152 (by decide) (fun c65 => ?_) (fun c65 => ?_)
                  ·
                    refine V_iconst 0 d_Reader_readNumber_159 (by decide) ?_
                    exact V_zret rfl (by decide) d_Reader_readNumber_160 ⟨0, rfl, ⟨hI61, f62, o8, o8Z, o8E, (kn_call fh59 (kn_ne eh38 (kn_call fh15 o8K rfl) (by decide)) rfl), o9, o9Z, o9E, (kn_call fh59 (kn_ne eh38 (kn_call fh15 o9K rfl) (by decide)) rfl), o10, o10Z, o10E, (kn_call fh59 (kn_ne eh38 (kn_call fh15 o10K rfl) (by decide)) rfl), o11, o11Z, o11E, (kn_call fh59 (kn_ne eh38 (kn_call fh15 o11K rfl) (by decide)) rfl), o63, o63Z, o63E, o63K, o64, o64Z, o64E, o64K, o11, o11Z, o11E, (kn_call fh59 (kn_put eh38) rfl), (by have s1 := num_0 (lo := 1) (hi := 9) p5.2.2.1 p5.2.2.2.2.1 ⟨by (first | decide +kernel | omega), by (first | decide +kernel | omega)⟩; exact Or.inr ⟨tc_0, ⟨by (first | decide +kernel | omega), by (first | decide +kernel | omega)⟩, by (first | decide +kernel | omega)⟩)⟩⟩
                  ·
                    refine V_iconst 1 d_Reader_readNumber_155 (by decide) ?_
                    refine V_goto 160 d_Reader_readNumber_156 (by decide) ?_
                    exact V_zret rfl (by decide) d_Reader_readNumber_160 ⟨1, rfl, ⟨hI61, f62, o8, o8Z, o8E, (kn_call fh59 (kn_ne eh38 (kn_call fh15 o8K rfl) (by decide)) rfl), o9, o9Z, o9E, (kn_call fh59 (kn_ne eh38 (kn_call fh15 o9K rfl) (by decide)) rfl), o10, o10Z, o10E, (kn_call fh59 (kn_ne eh38 (kn_call fh15 o10K rfl) (by decide)) rfl), o11, o11Z, o11E, (kn_call fh59 (kn_ne eh38 (kn_call fh15 o11K rfl) (by decide)) rfl), o63, o63Z, o63E, o63K, o64, o64Z, o64E, o64K, o11, o11Z, o11E, (kn_call fh59 (kn_put eh38) rfl), (by have s1 := num_0 (lo := 1) (hi := 9) p5.2.2.1 p5.2.2.2.2.1 ⟨by (first | decide +kernel | omega), by (first | decide +kernel | omega)⟩; exact Or.inl ⟨rfl, by (first | decide +kernel | omega), by (first | decide +kernel | omega), by (first | decide +kernel | omega), by (first | decide +kernel | omega), by (first | decide +kernel | omega), by (first | decide +kernel | omega), by (first | decide +kernel | omega)⟩)⟩⟩
                ·
                  exact absurd c57 (by decide)
              ·
                exact absurd c56 (by decide)
      ·
        refine V_aload_n 0 d_Reader_readNumber_51 rfl rfl ?_
        refine V_iconst 3 d_Reader_readNumber_52 (by decide) ?_
        refine V_aload_n 0 d_Reader_readNumber_53 rfl rfl ?_
        refine V_getR fa_Reader_12 sk_88 rfl d_Reader_readNumber_54 ?_
        refine N_getK fa_Reader_81 sk_89 rfl d_Reader_readNumber_57 (kn_call fh15 o9K rfl) ?_
        refine N_callVI [.int 3, .int o9] [] cv_Reader_64 sk_88 rfl d_Reader_readNumber_60 rfl (Nat.le_of_ble_eq_true rfl) (by decide) (by decide) (c_Reader_isRefusedX h15 hI17 3 3 tc_3 o9 o9Z o9E) (fun z66 h67 z66Z z66E p68 => ?_)
        obtain ⟨hI69, fh67, o71, o71Z, o71E, o71K, o72, o72Z, o72E, o72K, p68⟩ := p68
        have f70 : fr S_Reader_readNumberX_6_0 h h67 := fr_call f18 fh67 rfl
        obtain ⟨z73, z73Z, z73E, z73e⟩ : ∃ (y : Int32) (Y : Int), y.toInt = Y ∧ y = h67.1 91 0 := ⟨_, _, rfl, rfl⟩
        exact V_zret rfl (by rw [z66E]; omega) d_Reader_readNumber_63 ⟨z66, rfl, ⟨hI69, f70, o8, o8Z, o8E, (kn_call fh67 (kn_call fh15 o8K rfl) rfl), o9, o9Z, o9E, (kn_call fh67 (kn_call fh15 o9K rfl) rfl), o10, o10Z, o10E, (kn_call fh67 (kn_call fh15 o10K rfl) rfl), o11, o11Z, o11E, (kn_call fh67 (kn_call fh15 o11K rfl) rfl), o71, o71Z, o71E, o71K, o72, o72Z, o72E, o72K, z73, z73Z, z73E, z73e.symm, (by have s1 := num_3 (lo := 1) (hi := 9) p5.2.2.1 p5.2.2.2.2.1 (by (first | decide +kernel | omega)); exact Or.inr ⟨by (first | decide +kernel | omega), ⟨by (first | decide +kernel | omega), by (first | decide +kernel | omega)⟩, by (first | decide +kernel | omega)⟩)⟩⟩
  ·
    have hk9 := num_k 1 9 p5 p16 (by (first | decide +kernel | omega))
    refine V_iconst 0 d_Reader_readNumber_15 (by decide) ?_
    obtain ⟨z74, z74Z, z74E, z74e⟩ : ∃ (y : Int32) (Y : Int), y.toInt = Y ∧ y = h15.1 91 0 := ⟨_, _, rfl, rfl⟩
    exact V_zret rfl (by decide) d_Reader_readNumber_16 ⟨0, rfl, ⟨hI17, f18, o8, o8Z, o8E, (kn_call fh15 o8K rfl), o9, o9Z, o9E, (kn_call fh15 o9K rfl), o10, o10Z, o10E, (kn_call fh15 o10K rfl), o11, o11Z, o11E, (kn_call fh15 o11K rfl), o19, o19Z, o19E, o19K, o20, o20Z, o20E, o20K, z74, z74Z, z74E, z74e.symm, (Or.inr ⟨tc_0, ⟨hk9.1, hk9.2.1⟩, hk9.2.2⟩)⟩⟩
def S_Reader_readNumberX_7_0 : List (Nat × Option Nat) := [(89, some 2), (89, some 3), (89, some 4), (89, some 5), (88, some 5), (88, some 6), (91, some 0)]
abbrev q_Reader_readNumberX_7_0 (h : Hp) (b : Int → Int) (T : Nat → Int → Int) (s : Int32) (sZ : Int) (t : Int32) (tZ : Int) (a : Int32) (aZ : Int) (w : Int32) (wZ : Int) : Option Value → Hp → Prop := pInt (fun r h' => Inv h' ∧ fr S_Reader_readNumberX_7_0 h h' ∧ ∃ (k : Int32) (kZ : Int), k.toInt = kZ ∧ h'.1 89 2 = k ∧ ∃ (f : Int32) (fZ : Int), f.toInt = fZ ∧ h'.1 89 3 = f ∧ ∃ (u : Int32) (uZ : Int), u.toInt = uZ ∧ h'.1 89 4 = u ∧ ∃ (v : Int32) (vZ : Int), v.toInt = vZ ∧ h'.1 89 5 = v ∧ ∃ (e : Int32) (eZ : Int), e.toInt = eZ ∧ h'.1 88 6 = e ∧ ∃ (y : Int32) (yZ : Int), y.toInt = yZ ∧ h'.1 88 5 = y ∧ ∃ (x : Int32) (xZ : Int), x.toInt = xZ ∧ h'.1 91 0 = x ∧ (r.toInt = 1 ∧ x_cN b tZ 1 99 = 0 ∧ uZ = x_en b tZ ∧ xZ = x_vl b tZ ∧ eZ = wZ ∧ yZ = aZ ∧ tZ < uZ ∧ uZ ≤ sZ ∨ r.toInt = 0 ∧ (x_cN b tZ 1 99 ≠ 0 ∧ eZ = x_cN b tZ 1 99) ∧ yZ = x_fr b tZ))
set_option maxRecDepth 100000 in
theorem c_Reader_readNumberX_7_0 (h : Hp) (b : Int → Int) (T : Nat → Int → Int) (hI : Inv h) (s : Int32) (sZ : Int) (sE : s.toInt = sZ) (sK : h.1 89 1 = s) (t : Int32) (tZ : Int) (tE : t.toInt = tZ) (tK : h.1 89 4 = t) (a : Int32) (aZ : Int) (aE : a.toInt = aZ) (aK : h.1 88 5 = a) (w : Int32) (wZ : Int) (wE : w.toInt = wZ) (wK : h.1 88 6 = w) (hy0 : TP h 90 sZ b) (hy1 : 0 ≤ tZ ∧ tZ ≤ sZ) : Ct y_Reader_readNumber b_Reader_readNumber 6 (some .boolean) 3 60 [.ref 88, .int 7, .int 0] h (q_Reader_readNumberX_7_0 h b T s sZ t tZ a aZ w wZ) := by
  refine ct_ow R_Reader [some (.ref 88), some (.int 7), some (.int 0), none, none, none] rfl (by decide) rfl (Nat.le_of_ble_eq_true rfl) ?_
  have f0 : fr S_Reader_readNumberX_7_0 h h := fr_rf
  have g1 : 0 ≤ sZ ∧ sZ ≤ 160 := inv_at hI sE sK.symm rfl
  have g2 : 0 ≤ tZ ∧ tZ ≤ 160 := inv_at hI tE tK.symm rfl
  refine V_aload_n 0 d_Reader_readNumber_0 rfl rfl ?_
  refine V_getR fa_Reader_12 sk_88 rfl d_Reader_readNumber_1 ?_
  refine N_callVV [] [] cv_Reader_48 sk_89 rfl d_Reader_readNumber_4 rfl (Nat.le_of_ble_eq_true rfl) (by decide) (by decide) (c_Tape_advanceX h b hI s sZ sE sK t tZ tE tK (TP_fr f0 (fun _ => rfl) hy0) (by (first | decide +kernel | omega))) (fun h4 p5 => ?_)
  obtain ⟨hI6, fh4, o8, o8Z, o8E, o8K, o9, o9Z, o9E, o9K, o10, o10Z, o10E, o10K, o11, o11Z, o11E, o11K, p5⟩ := p5
  have f7 : fr S_Reader_readNumberX_7_0 h h4 := fr_call f0 fh4 rfl
  have g12 : 0 ≤ o9Z ∧ o9Z ≤ 160 := inv_at hI6 o9E o9K.symm rfl
  have g13 : 0 ≤ o10Z ∧ o10Z ≤ 160 := inv_at hI6 o10E o10K.symm rfl
  refine V_aload_n 0 d_Reader_readNumber_7 rfl rfl ?_
  refine V_iconst 2 d_Reader_readNumber_8 (by decide) ?_
  refine N_callVI [.int 2] [] cv_Reader_84 sk_88 rfl d_Reader_readNumber_9 rfl (Nat.le_of_ble_eq_true rfl) (by decide) (by decide) (c_Reader_isKindX h4 hI6 2 2 tc_2 o8 o8Z o8E o8K o9 o9Z o9E o9K a aZ aE (kn_call fh4 aK rfl) w wZ wE (kn_call fh4 wK rfl)) (fun z14 h15 z14Z z14E p16 => ?_)
  obtain ⟨hI17, fh15, o19, o19Z, o19E, o19K, o20, o20Z, o20E, o20K, p16⟩ := p16
  have f18 : fr S_Reader_readNumberX_7_0 h h15 := fr_call f7 fh15 rfl
  refine V_if_ne 17 z14E d_Reader_readNumber_12 (by decide) (fun c21 => ?_) (fun c21 => ?_)
  ·
    replace p16 := kd_y p16 (by (first | decide +kernel | omega))
    replace p5 := adv_2 p5 (by (first | decide +kernel | omega))
    refine V_aload_n 0 d_Reader_readNumber_17 rfl rfl ?_
    refine V_getR fa_Reader_12 sk_88 rfl d_Reader_readNumber_18 ?_
    refine N_getK fa_Reader_122 sk_89 rfl d_Reader_readNumber_21 (kn_call fh15 o11K rfl) ?_
    refine V_istore_n 3 [some (.ref 88), some (.int 7), some (.int 0), some (.int o11), none, none] d_Reader_readNumber_24 rfl (by decide) rfl rfl ?_
    refine V_iload_n 3 d_Reader_readNumber_25 rfl rfl ?_
    refine V_gets (v := .ref 133) zL ws_Reader_125 d_Reader_readNumber_26 ?_
    refine V_iconst 3 d_Reader_readNumber_29 (by decide) ?_
    refine V_iload_n 1 d_Reader_readNumber_30 rfl rfl ?_
    refine V_imulw d_Reader_readNumber_31 (fun z22 z22e => ?_)
    obtain rfl : z22 = 21 := z22e.trans (by decide)
    refine V_iload_n 2 d_Reader_readNumber_32 rfl rfl ?_
    refine V_iaddw d_Reader_readNumber_33 (fun z23 z23e => ?_)
    obtain rfl : z23 = 21 := z23e.trans (by decide)
    refine V_tald roL tc_21 (by decide) d_Reader_readNumber_34 (fun z24 z24Z z24E z24e => ?_)
    obtain rfl : z24 = 1 := z24e.trans rfl
    refine V_icmp_lt 51 o11E tc_1 d_Reader_readNumber_35 (by decide) (fun c25 => ?_) (fun c25 => ?_)
    ·
      refine V_aload_n 0 d_Reader_readNumber_51 rfl rfl ?_
      refine V_iconst 3 d_Reader_readNumber_52 (by decide) ?_
      refine V_aload_n 0 d_Reader_readNumber_53 rfl rfl ?_
      refine V_getR fa_Reader_12 sk_88 rfl d_Reader_readNumber_54 ?_
      refine N_getK fa_Reader_81 sk_89 rfl d_Reader_readNumber_57 (kn_call fh15 o9K rfl) ?_
      refine N_callVI [.int 3, .int o9] [] cv_Reader_64 sk_88 rfl d_Reader_readNumber_60 rfl (Nat.le_of_ble_eq_true rfl) (by decide) (by decide) (c_Reader_isRefusedX h15 hI17 3 3 tc_3 o9 o9Z o9E) (fun z26 h27 z26Z z26E p28 => ?_)
      obtain ⟨hI29, fh27, o31, o31Z, o31E, o31K, o32, o32Z, o32E, o32K, p28⟩ := p28
      have f30 : fr S_Reader_readNumberX_7_0 h h27 := fr_call f18 fh27 rfl
      obtain ⟨z33, z33Z, z33E, z33e⟩ : ∃ (y : Int32) (Y : Int), y.toInt = Y ∧ y = h27.1 91 0 := ⟨_, _, rfl, rfl⟩
      exact V_zret rfl (by rw [z26E]; omega) d_Reader_readNumber_63 ⟨z26, rfl, ⟨hI29, f30, o8, o8Z, o8E, (kn_call fh27 (kn_call fh15 o8K rfl) rfl), o9, o9Z, o9E, (kn_call fh27 (kn_call fh15 o9K rfl) rfl), o10, o10Z, o10E, (kn_call fh27 (kn_call fh15 o10K rfl) rfl), o11, o11Z, o11E, (kn_call fh27 (kn_call fh15 o11K rfl) rfl), o31, o31Z, o31E, o31K, o32, o32Z, o32E, o32K, z33, z33Z, z33E, z33e.symm, (by have s1 := num_3 (lo := 1) (hi := 99) p5.2.2.1 p5.2.2.2.2.1 (by (first | decide +kernel | omega)); exact Or.inr ⟨by (first | decide +kernel | omega), ⟨by (first | decide +kernel | omega), by (first | decide +kernel | omega)⟩, by (first | decide +kernel | omega)⟩)⟩⟩
    ·
      refine V_iload_n 3 d_Reader_readNumber_38 rfl rfl ?_
      refine V_gets (v := .ref 134) zM ws_Reader_128 d_Reader_readNumber_39 ?_
      refine V_iconst 3 d_Reader_readNumber_42 (by decide) ?_
      refine V_iload_n 1 d_Reader_readNumber_43 rfl rfl ?_
      refine V_imulw d_Reader_readNumber_44 (fun z34 z34e => ?_)
      obtain rfl : z34 = 21 := z34e.trans (by decide)
      refine V_iload_n 2 d_Reader_readNumber_45 rfl rfl ?_
      refine V_iaddw d_Reader_readNumber_46 (fun z35 z35e => ?_)
      obtain rfl : z35 = 21 := z35e.trans (by decide)
      refine V_tald roM tc_21 (by decide) d_Reader_readNumber_47 (fun z36 z36Z z36E z36e => ?_)
      obtain rfl : z36 = 99 := z36e.trans rfl
      refine V_icmp_le 64 o11E tc_99 d_Reader_readNumber_48 (by decide) (fun c37 => ?_) (fun c37 => ?_)
      ·
        refine V_aload_n 0 d_Reader_readNumber_64 rfl rfl ?_
        refine V_getR fa_Reader_25 sk_88 rfl d_Reader_readNumber_65 ?_
        refine V_iload_n 2 d_Reader_readNumber_68 rfl rfl ?_
        refine V_iload_n 3 d_Reader_readNumber_69 rfl rfl ?_
        refine N_iast sk_91 tc_0 (by (first | decide +kernel | omega)) d_Reader_readNumber_70 (fun h38 eh38 => ?_)
        have hI39 : Inv h38 := inv_full hI17 eh38 rfl
        have f40 : fr S_Reader_readNumberX_7_0 h h38 := fr_put f18 eh38 rfl
        refine V_iload_n 2 d_Reader_readNumber_71 rfl rfl ?_
        refine V_if_ne 99 tc_0 d_Reader_readNumber_72 (by decide) (fun c41 => ?_) (fun c41 => ?_)
        ·
          exact absurd c41 (by decide)
        ·
          refine V_iload_n 1 d_Reader_readNumber_75 rfl rfl ?_
          refine N_callSI [.int 7] [] cs_Reader_131 d_Reader_readNumber_76 rfl (Nat.le_of_ble_eq_true rfl) (by decide) (by decide) (c_Reader_isOfOneX_7 h38) (fun z42 h43 z42Z z42E p44 => ?_)
          obtain ⟨eh43, p44⟩ := p44
          subst eh43
          refine V_if_eq 99 z42E d_Reader_readNumber_79 (by decide) (fun c45 => ?_) (fun c45 => ?_)
          ·
            refine V_iconst 0 d_Reader_readNumber_99 (by decide) ?_
            refine V_istore 4 [some (.ref 88), some (.int 7), some (.int 0), some (.int o11), some (.int 0), none] d_Reader_readNumber_100 (by decide) rfl rfl ?_
            refine V_iload_n 2 d_Reader_readNumber_102 rfl rfl ?_
            refine V_iconst 1 d_Reader_readNumber_103 (by decide) ?_
            refine V_icmp_ne 127 tc_0 tc_1 d_Reader_readNumber_104 (by decide) (fun c46 => ?_) (fun c46 => ?_)
            ·
              refine V_iconst 0 d_Reader_readNumber_127 (by decide) ?_
              refine V_istore 5 [some (.ref 88), some (.int 7), some (.int 0), some (.int o11), some (.int 0), some (.int 0)] d_Reader_readNumber_128 (by decide) rfl rfl ?_
              refine V_iload d_Reader_readNumber_130 rfl ?_
              refine V_if_ne 140 tc_0 d_Reader_readNumber_132 (by decide) (fun c47 => ?_) (fun c47 => ?_)
              ·
                exact absurd c47 (by decide)
              ·
                refine V_iload d_Reader_readNumber_135 rfl ?_
                refine V_if_eq 155 tc_0 d_Reader_readNumber_137 (by decide) (fun c48 => ?_) (fun c48 => ?_)
                ·
                  refine V_iconst 1 d_Reader_readNumber_155 (by decide) ?_
                  refine V_goto 160 d_Reader_readNumber_156 (by decide) ?_
                  exact V_zret rfl (by decide) d_Reader_readNumber_160 ⟨1, rfl, ⟨hI39, f40, o8, o8Z, o8E, (kn_ne eh38 (kn_call fh15 o8K rfl) (by decide)), o9, o9Z, o9E, (kn_ne eh38 (kn_call fh15 o9K rfl) (by decide)), o10, o10Z, o10E, (kn_ne eh38 (kn_call fh15 o10K rfl) (by decide)), o11, o11Z, o11E, (kn_ne eh38 (kn_call fh15 o11K rfl) (by decide)), o19, o19Z, o19E, (kn_ne eh38 o19K (by decide)), o20, o20Z, o20E, (kn_ne eh38 o20K (by decide)), o11, o11Z, o11E, (kn_put eh38), (by have s1 := num_0 (lo := 1) (hi := 99) p5.2.2.1 p5.2.2.2.2.1 ⟨by (first | decide +kernel | omega), by (first | decide +kernel | omega)⟩; exact Or.inl ⟨rfl, by (first | decide +kernel | omega), by (first | decide +kernel | omega), by (first | decide +kernel | omega), by (first | decide +kernel | omega), by (first | decide +kernel | omega), by (first | decide +kernel | omega), by (first | decide +kernel | omega)⟩)⟩⟩
                ·
                  exact absurd c48 (by decide)
            ·
              exact absurd c46 (by decide)
          ·
            refine V_aload_n 0 d_Reader_readNumber_82 rfl rfl ?_
            refine V_getR fa_Reader_29 sk_88 rfl d_Reader_readNumber_83 ?_
            refine V_iload_n 1 d_Reader_readNumber_86 rfl rfl ?_
            refine N_iald sk_92 tc_7 (by (first | decide +kernel | omega)) d_Reader_readNumber_87 (fun z49 z49Z z49E z49e => ?_)
            refine V_iload_n 3 d_Reader_readNumber_88 rfl rfl ?_
            refine N_ishr d_Reader_readNumber_89 (fun z50 z50Z z50E z50e => ?_)
            refine V_iconst 1 d_Reader_readNumber_90 (by decide) ?_
            refine N_iand d_Reader_readNumber_91 (fun z51 z51Z z51E z51e => ?_)
            refine V_if_eq 99 z51E d_Reader_readNumber_92 (by decide) (fun c52 => ?_) (fun c52 => ?_)
            ·
              refine V_iconst 0 d_Reader_readNumber_99 (by decide) ?_
              refine V_istore 4 [some (.ref 88), some (.int 7), some (.int 0), some (.int o11), some (.int 0), none] d_Reader_readNumber_100 (by decide) rfl rfl ?_
              refine V_iload_n 2 d_Reader_readNumber_102 rfl rfl ?_
              refine V_iconst 1 d_Reader_readNumber_103 (by decide) ?_
              refine V_icmp_ne 127 tc_0 tc_1 d_Reader_readNumber_104 (by decide) (fun c53 => ?_) (fun c53 => ?_)
              ·
                refine V_iconst 0 d_Reader_readNumber_127 (by decide) ?_
                refine V_istore 5 [some (.ref 88), some (.int 7), some (.int 0), some (.int o11), some (.int 0), some (.int 0)] d_Reader_readNumber_128 (by decide) rfl rfl ?_
                refine V_iload d_Reader_readNumber_130 rfl ?_
                refine V_if_ne 140 tc_0 d_Reader_readNumber_132 (by decide) (fun c54 => ?_) (fun c54 => ?_)
                ·
                  exact absurd c54 (by decide)
                ·
                  refine V_iload d_Reader_readNumber_135 rfl ?_
                  refine V_if_eq 155 tc_0 d_Reader_readNumber_137 (by decide) (fun c55 => ?_) (fun c55 => ?_)
                  ·
                    refine V_iconst 1 d_Reader_readNumber_155 (by decide) ?_
                    refine V_goto 160 d_Reader_readNumber_156 (by decide) ?_
                    exact V_zret rfl (by decide) d_Reader_readNumber_160 ⟨1, rfl, ⟨hI39, f40, o8, o8Z, o8E, (kn_ne eh38 (kn_call fh15 o8K rfl) (by decide)), o9, o9Z, o9E, (kn_ne eh38 (kn_call fh15 o9K rfl) (by decide)), o10, o10Z, o10E, (kn_ne eh38 (kn_call fh15 o10K rfl) (by decide)), o11, o11Z, o11E, (kn_ne eh38 (kn_call fh15 o11K rfl) (by decide)), o19, o19Z, o19E, (kn_ne eh38 o19K (by decide)), o20, o20Z, o20E, (kn_ne eh38 o20K (by decide)), o11, o11Z, o11E, (kn_put eh38), (by have s1 := num_0 (lo := 1) (hi := 99) p5.2.2.1 p5.2.2.2.2.1 ⟨by (first | decide +kernel | omega), by (first | decide +kernel | omega)⟩; exact Or.inl ⟨rfl, by (first | decide +kernel | omega), by (first | decide +kernel | omega), by (first | decide +kernel | omega), by (first | decide +kernel | omega), by (first | decide +kernel | omega), by (first | decide +kernel | omega), by (first | decide +kernel | omega)⟩)⟩⟩
                  ·
                    exact absurd c55 (by decide)
              ·
                exact absurd c53 (by decide)
            ·
              refine V_iconst 1 d_Reader_readNumber_95 (by decide) ?_
              refine V_goto 100 d_Reader_readNumber_96 (by decide) ?_
              refine V_istore 4 [some (.ref 88), some (.int 7), some (.int 0), some (.int o11), some (.int 1), none] d_Reader_readNumber_100 (by decide) rfl rfl ?_
              refine V_iload_n 2 d_Reader_readNumber_102 rfl rfl ?_
              refine V_iconst 1 d_Reader_readNumber_103 (by decide) ?_
              refine V_icmp_ne 127 tc_0 tc_1 d_Reader_readNumber_104 (by decide) (fun c56 => ?_) (fun c56 => ?_)
              ·
                refine V_iconst 0 d_Reader_readNumber_127 (by decide) ?_
                refine V_istore 5 [some (.ref 88), some (.int 7), some (.int 0), some (.int o11), some (.int 1), some (.int 0)] d_Reader_readNumber_128 (by decide) rfl rfl ?_
                refine V_iload d_Reader_readNumber_130 rfl ?_
                refine V_if_ne 140 tc_1 d_Reader_readNumber_132 (by decide) (fun c57 => ?_) (fun c57 => ?_)
                ·
                  refine V_aload_n 0 d_Reader_readNumber_140 rfl rfl ?_
                  refine V_iconst 4 d_Reader_readNumber_141 (by decide) ?_
                  refine V_aload_n 0 d_Reader_readNumber_142 rfl rfl ?_
                  refine V_getR fa_Reader_12 sk_88 rfl d_Reader_readNumber_143 ?_
                  refine N_getK fa_Reader_81 sk_89 rfl d_Reader_readNumber_146 (kn_ne eh38 (kn_call fh15 o9K rfl) (by decide)) ?_
                  refine N_callVI [.int 4, .int o9] [] cv_Reader_64 sk_88 rfl d_Reader_readNumber_149 rfl (Nat.le_of_ble_eq_true rfl) (by decide) (by decide) (c_Reader_isRefusedX h38 hI39 4 4 tc_4 o9 o9Z o9E) (fun z58 h59 z58Z z58E p60 => ?_)
                  obtain ⟨hI61, fh59, o63, o63Z, o63E, o63K, o64, o64Z, o64E, o64K, p60⟩ := p60
                  have f62 : fr S_Reader_readNumberX_7_0 h h59 := fr_call f40 fh59 rfl
                  refine V_if_eq 159 z58E d_Reader_readNumber_152 (by decide) (fun c65 => ?_) (fun c65 => ?_)
                  ·
                    refine V_iconst 0 d_Reader_readNumber_159 (by decide) ?_
                    exact V_zret rfl (by decide) d_Reader_readNumber_160 ⟨0, rfl, ⟨hI61, f62, o8, o8Z, o8E, (kn_call fh59 (kn_ne eh38 (kn_call fh15 o8K rfl) (by decide)) rfl), o9, o9Z, o9E, (kn_call fh59 (kn_ne eh38 (kn_call fh15 o9K rfl) (by decide)) rfl), o10, o10Z, o10E, (kn_call fh59 (kn_ne eh38 (kn_call fh15 o10K rfl) (by decide)) rfl), o11, o11Z, o11E, (kn_call fh59 (kn_ne eh38 (kn_call fh15 o11K rfl) (by decide)) rfl), o63, o63Z, o63E, o63K, o64, o64Z, o64E, o64K, o11, o11Z, o11E, (kn_call fh59 (kn_put eh38) rfl), (by have s1 := num_0 (lo := 1) (hi := 99) p5.2.2.1 p5.2.2.2.2.1 ⟨by (first | decide +kernel | omega), by (first | decide +kernel | omega)⟩; exact Or.inr ⟨tc_0, ⟨by (first | decide +kernel | omega), by (first | decide +kernel | omega)⟩, by (first | decide +kernel | omega)⟩)⟩⟩
                  ·
                    refine V_iconst 1 d_Reader_readNumber_155 (by decide) ?_
                    refine V_goto 160 d_Reader_readNumber_156 (by decide) ?_
                    exact V_zret rfl (by decide) d_Reader_readNumber_160 ⟨1, rfl, ⟨hI61, f62, o8, o8Z, o8E, (kn_call fh59 (kn_ne eh38 (kn_call fh15 o8K rfl) (by decide)) rfl), o9, o9Z, o9E, (kn_call fh59 (kn_ne eh38 (kn_call fh15 o9K rfl) (by decide)) rfl), o10, o10Z, o10E, (kn_call fh59 (kn_ne eh38 (kn_call fh15 o10K rfl) (by decide)) rfl), o11, o11Z, o11E, (kn_call fh59 (kn_ne eh38 (kn_call fh15 o11K rfl) (by decide)) rfl), o63, o63Z, o63E, o63K, o64, o64Z, o64E, o64K, o11, o11Z, o11E, (kn_call fh59 (kn_put eh38) rfl), (by have s1 := num_0 (lo := 1) (hi := 99) p5.2.2.1 p5.2.2.2.2.1 ⟨by (first | decide +kernel | omega), by (first | decide +kernel | omega)⟩; exact Or.inl ⟨rfl, by (first | decide +kernel | omega), by (first | decide +kernel | omega), by (first | decide +kernel | omega), by (first | decide +kernel | omega), by (first | decide +kernel | omega), by (first | decide +kernel | omega), by (first | decide +kernel | omega)⟩)⟩⟩
                ·
                  exact absurd c57 (by decide)
              ·
                exact absurd c56 (by decide)
      ·
        refine V_aload_n 0 d_Reader_readNumber_51 rfl rfl ?_
        refine V_iconst 3 d_Reader_readNumber_52 (by decide) ?_
        refine V_aload_n 0 d_Reader_readNumber_53 rfl rfl ?_
        refine V_getR fa_Reader_12 sk_88 rfl d_Reader_readNumber_54 ?_
        refine N_getK fa_Reader_81 sk_89 rfl d_Reader_readNumber_57 (kn_call fh15 o9K rfl) ?_
        refine N_callVI [.int 3, .int o9] [] cv_Reader_64 sk_88 rfl d_Reader_readNumber_60 rfl (Nat.le_of_ble_eq_true rfl) (by decide) (by decide) (c_Reader_isRefusedX h15 hI17 3 3 tc_3 o9 o9Z o9E) (fun z66 h67 z66Z z66E p68 => ?_)
        obtain ⟨hI69, fh67, o71, o71Z, o71E, o71K, o72, o72Z, o72E, o72K, p68⟩ := p68
        have f70 : fr S_Reader_readNumberX_7_0 h h67 := fr_call f18 fh67 rfl
        obtain ⟨z73, z73Z, z73E, z73e⟩ : ∃ (y : Int32) (Y : Int), y.toInt = Y ∧ y = h67.1 91 0 := ⟨_, _, rfl, rfl⟩
        exact V_zret rfl (by rw [z66E]; omega) d_Reader_readNumber_63 ⟨z66, rfl, ⟨hI69, f70, o8, o8Z, o8E, (kn_call fh67 (kn_call fh15 o8K rfl) rfl), o9, o9Z, o9E, (kn_call fh67 (kn_call fh15 o9K rfl) rfl), o10, o10Z, o10E, (kn_call fh67 (kn_call fh15 o10K rfl) rfl), o11, o11Z, o11E, (kn_call fh67 (kn_call fh15 o11K rfl) rfl), o71, o71Z, o71E, o71K, o72, o72Z, o72E, o72K, z73, z73Z, z73E, z73e.symm, (by have s1 := num_3 (lo := 1) (hi := 99) p5.2.2.1 p5.2.2.2.2.1 (by (first | decide +kernel | omega)); exact Or.inr ⟨by (first | decide +kernel | omega), ⟨by (first | decide +kernel | omega), by (first | decide +kernel | omega)⟩, by (first | decide +kernel | omega)⟩)⟩⟩
  ·
    have hk9 := num_k 1 99 p5 p16 (by (first | decide +kernel | omega))
    refine V_iconst 0 d_Reader_readNumber_15 (by decide) ?_
    obtain ⟨z74, z74Z, z74E, z74e⟩ : ∃ (y : Int32) (Y : Int), y.toInt = Y ∧ y = h15.1 91 0 := ⟨_, _, rfl, rfl⟩
    exact V_zret rfl (by decide) d_Reader_readNumber_16 ⟨0, rfl, ⟨hI17, f18, o8, o8Z, o8E, (kn_call fh15 o8K rfl), o9, o9Z, o9E, (kn_call fh15 o9K rfl), o10, o10Z, o10E, (kn_call fh15 o10K rfl), o11, o11Z, o11E, (kn_call fh15 o11K rfl), o19, o19Z, o19E, o19K, o20, o20Z, o20E, o20K, z74, z74Z, z74E, z74e.symm, (Or.inr ⟨tc_0, ⟨hk9.1, hk9.2.1⟩, hk9.2.2⟩)⟩⟩
def S_Reader_readNumberX_8_0 : List (Nat × Option Nat) := [(89, some 2), (89, some 3), (89, some 4), (89, some 5), (88, some 5), (88, some 6), (91, some 0)]
abbrev q_Reader_readNumberX_8_0 (h : Hp) (b : Int → Int) (T : Nat → Int → Int) (s : Int32) (sZ : Int) (t : Int32) (tZ : Int) (a : Int32) (aZ : Int) (w : Int32) (wZ : Int) : Option Value → Hp → Prop := pInt (fun r h' => Inv h' ∧ fr S_Reader_readNumberX_8_0 h h' ∧ ∃ (k : Int32) (kZ : Int), k.toInt = kZ ∧ h'.1 89 2 = k ∧ ∃ (f : Int32) (fZ : Int), f.toInt = fZ ∧ h'.1 89 3 = f ∧ ∃ (u : Int32) (uZ : Int), u.toInt = uZ ∧ h'.1 89 4 = u ∧ ∃ (v : Int32) (vZ : Int), v.toInt = vZ ∧ h'.1 89 5 = v ∧ ∃ (e : Int32) (eZ : Int), e.toInt = eZ ∧ h'.1 88 6 = e ∧ ∃ (y : Int32) (yZ : Int), y.toInt = yZ ∧ h'.1 88 5 = y ∧ ∃ (x : Int32) (xZ : Int), x.toInt = xZ ∧ h'.1 91 0 = x ∧ (r.toInt = 1 ∧ x_cN b tZ 1 9 = 0 ∧ uZ = x_en b tZ ∧ xZ = x_vl b tZ ∧ eZ = wZ ∧ yZ = aZ ∧ tZ < uZ ∧ uZ ≤ sZ ∨ r.toInt = 0 ∧ (x_cN b tZ 1 9 ≠ 0 ∧ eZ = x_cN b tZ 1 9) ∧ yZ = x_fr b tZ))
set_option maxRecDepth 100000 in
theorem c_Reader_readNumberX_8_0 (h : Hp) (b : Int → Int) (T : Nat → Int → Int) (hI : Inv h) (s : Int32) (sZ : Int) (sE : s.toInt = sZ) (sK : h.1 89 1 = s) (t : Int32) (tZ : Int) (tE : t.toInt = tZ) (tK : h.1 89 4 = t) (a : Int32) (aZ : Int) (aE : a.toInt = aZ) (aK : h.1 88 5 = a) (w : Int32) (wZ : Int) (wE : w.toInt = wZ) (wK : h.1 88 6 = w) (hy0 : TP h 90 sZ b) (hy1 : 0 ≤ tZ ∧ tZ ≤ sZ) : Ct y_Reader_readNumber b_Reader_readNumber 6 (some .boolean) 3 60 [.ref 88, .int 8, .int 0] h (q_Reader_readNumberX_8_0 h b T s sZ t tZ a aZ w wZ) := by
  refine ct_ow R_Reader [some (.ref 88), some (.int 8), some (.int 0), none, none, none] rfl (by decide) rfl (Nat.le_of_ble_eq_true rfl) ?_
  have f0 : fr S_Reader_readNumberX_8_0 h h := fr_rf
  have g1 : 0 ≤ sZ ∧ sZ ≤ 160 := inv_at hI sE sK.symm rfl
  have g2 : 0 ≤ tZ ∧ tZ ≤ 160 := inv_at hI tE tK.symm rfl
  refine V_aload_n 0 d_Reader_readNumber_0 rfl rfl ?_
  refine V_getR fa_Reader_12 sk_88 rfl d_Reader_readNumber_1 ?_
  refine N_callVV [] [] cv_Reader_48 sk_89 rfl d_Reader_readNumber_4 rfl (Nat.le_of_ble_eq_true rfl) (by decide) (by decide) (c_Tape_advanceX h b hI s sZ sE sK t tZ tE tK (TP_fr f0 (fun _ => rfl) hy0) (by (first | decide +kernel | omega))) (fun h4 p5 => ?_)
  obtain ⟨hI6, fh4, o8, o8Z, o8E, o8K, o9, o9Z, o9E, o9K, o10, o10Z, o10E, o10K, o11, o11Z, o11E, o11K, p5⟩ := p5
  have f7 : fr S_Reader_readNumberX_8_0 h h4 := fr_call f0 fh4 rfl
  have g12 : 0 ≤ o9Z ∧ o9Z ≤ 160 := inv_at hI6 o9E o9K.symm rfl
  have g13 : 0 ≤ o10Z ∧ o10Z ≤ 160 := inv_at hI6 o10E o10K.symm rfl
  refine V_aload_n 0 d_Reader_readNumber_7 rfl rfl ?_
  refine V_iconst 2 d_Reader_readNumber_8 (by decide) ?_
  refine N_callVI [.int 2] [] cv_Reader_84 sk_88 rfl d_Reader_readNumber_9 rfl (Nat.le_of_ble_eq_true rfl) (by decide) (by decide) (c_Reader_isKindX h4 hI6 2 2 tc_2 o8 o8Z o8E o8K o9 o9Z o9E o9K a aZ aE (kn_call fh4 aK rfl) w wZ wE (kn_call fh4 wK rfl)) (fun z14 h15 z14Z z14E p16 => ?_)
  obtain ⟨hI17, fh15, o19, o19Z, o19E, o19K, o20, o20Z, o20E, o20K, p16⟩ := p16
  have f18 : fr S_Reader_readNumberX_8_0 h h15 := fr_call f7 fh15 rfl
  refine V_if_ne 17 z14E d_Reader_readNumber_12 (by decide) (fun c21 => ?_) (fun c21 => ?_)
  ·
    replace p16 := kd_y p16 (by (first | decide +kernel | omega))
    replace p5 := adv_2 p5 (by (first | decide +kernel | omega))
    refine V_aload_n 0 d_Reader_readNumber_17 rfl rfl ?_
    refine V_getR fa_Reader_12 sk_88 rfl d_Reader_readNumber_18 ?_
    refine N_getK fa_Reader_122 sk_89 rfl d_Reader_readNumber_21 (kn_call fh15 o11K rfl) ?_
    refine V_istore_n 3 [some (.ref 88), some (.int 8), some (.int 0), some (.int o11), none, none] d_Reader_readNumber_24 rfl (by decide) rfl rfl ?_
    refine V_iload_n 3 d_Reader_readNumber_25 rfl rfl ?_
    refine V_gets (v := .ref 133) zL ws_Reader_125 d_Reader_readNumber_26 ?_
    refine V_iconst 3 d_Reader_readNumber_29 (by decide) ?_
    refine V_iload_n 1 d_Reader_readNumber_30 rfl rfl ?_
    refine V_imulw d_Reader_readNumber_31 (fun z22 z22e => ?_)
    obtain rfl : z22 = 24 := z22e.trans (by decide)
    refine V_iload_n 2 d_Reader_readNumber_32 rfl rfl ?_
    refine V_iaddw d_Reader_readNumber_33 (fun z23 z23e => ?_)
    obtain rfl : z23 = 24 := z23e.trans (by decide)
    refine V_tald roL tc_24 (by decide) d_Reader_readNumber_34 (fun z24 z24Z z24E z24e => ?_)
    obtain rfl : z24 = 1 := z24e.trans rfl
    refine V_icmp_lt 51 o11E tc_1 d_Reader_readNumber_35 (by decide) (fun c25 => ?_) (fun c25 => ?_)
    ·
      refine V_aload_n 0 d_Reader_readNumber_51 rfl rfl ?_
      refine V_iconst 3 d_Reader_readNumber_52 (by decide) ?_
      refine V_aload_n 0 d_Reader_readNumber_53 rfl rfl ?_
      refine V_getR fa_Reader_12 sk_88 rfl d_Reader_readNumber_54 ?_
      refine N_getK fa_Reader_81 sk_89 rfl d_Reader_readNumber_57 (kn_call fh15 o9K rfl) ?_
      refine N_callVI [.int 3, .int o9] [] cv_Reader_64 sk_88 rfl d_Reader_readNumber_60 rfl (Nat.le_of_ble_eq_true rfl) (by decide) (by decide) (c_Reader_isRefusedX h15 hI17 3 3 tc_3 o9 o9Z o9E) (fun z26 h27 z26Z z26E p28 => ?_)
      obtain ⟨hI29, fh27, o31, o31Z, o31E, o31K, o32, o32Z, o32E, o32K, p28⟩ := p28
      have f30 : fr S_Reader_readNumberX_8_0 h h27 := fr_call f18 fh27 rfl
      obtain ⟨z33, z33Z, z33E, z33e⟩ : ∃ (y : Int32) (Y : Int), y.toInt = Y ∧ y = h27.1 91 0 := ⟨_, _, rfl, rfl⟩
      exact V_zret rfl (by rw [z26E]; omega) d_Reader_readNumber_63 ⟨z26, rfl, ⟨hI29, f30, o8, o8Z, o8E, (kn_call fh27 (kn_call fh15 o8K rfl) rfl), o9, o9Z, o9E, (kn_call fh27 (kn_call fh15 o9K rfl) rfl), o10, o10Z, o10E, (kn_call fh27 (kn_call fh15 o10K rfl) rfl), o11, o11Z, o11E, (kn_call fh27 (kn_call fh15 o11K rfl) rfl), o31, o31Z, o31E, o31K, o32, o32Z, o32E, o32K, z33, z33Z, z33E, z33e.symm, (by have s1 := num_3 (lo := 1) (hi := 9) p5.2.2.1 p5.2.2.2.2.1 (by (first | decide +kernel | omega)); exact Or.inr ⟨by (first | decide +kernel | omega), ⟨by (first | decide +kernel | omega), by (first | decide +kernel | omega)⟩, by (first | decide +kernel | omega)⟩)⟩⟩
    ·
      refine V_iload_n 3 d_Reader_readNumber_38 rfl rfl ?_
      refine V_gets (v := .ref 134) zM ws_Reader_128 d_Reader_readNumber_39 ?_
      refine V_iconst 3 d_Reader_readNumber_42 (by decide) ?_
      refine V_iload_n 1 d_Reader_readNumber_43 rfl rfl ?_
      refine V_imulw d_Reader_readNumber_44 (fun z34 z34e => ?_)
      obtain rfl : z34 = 24 := z34e.trans (by decide)
      refine V_iload_n 2 d_Reader_readNumber_45 rfl rfl ?_
      refine V_iaddw d_Reader_readNumber_46 (fun z35 z35e => ?_)
      obtain rfl : z35 = 24 := z35e.trans (by decide)
      refine V_tald roM tc_24 (by decide) d_Reader_readNumber_47 (fun z36 z36Z z36E z36e => ?_)
      obtain rfl : z36 = 9 := z36e.trans rfl
      refine V_icmp_le 64 o11E tc_9 d_Reader_readNumber_48 (by decide) (fun c37 => ?_) (fun c37 => ?_)
      ·
        refine V_aload_n 0 d_Reader_readNumber_64 rfl rfl ?_
        refine V_getR fa_Reader_25 sk_88 rfl d_Reader_readNumber_65 ?_
        refine V_iload_n 2 d_Reader_readNumber_68 rfl rfl ?_
        refine V_iload_n 3 d_Reader_readNumber_69 rfl rfl ?_
        refine N_iast sk_91 tc_0 (by (first | decide +kernel | omega)) d_Reader_readNumber_70 (fun h38 eh38 => ?_)
        have hI39 : Inv h38 := inv_full hI17 eh38 rfl
        have f40 : fr S_Reader_readNumberX_8_0 h h38 := fr_put f18 eh38 rfl
        refine V_iload_n 2 d_Reader_readNumber_71 rfl rfl ?_
        refine V_if_ne 99 tc_0 d_Reader_readNumber_72 (by decide) (fun c41 => ?_) (fun c41 => ?_)
        ·
          exact absurd c41 (by decide)
        ·
          refine V_iload_n 1 d_Reader_readNumber_75 rfl rfl ?_
          refine N_callSI [.int 8] [] cs_Reader_131 d_Reader_readNumber_76 rfl (Nat.le_of_ble_eq_true rfl) (by decide) (by decide) (c_Reader_isOfOneX_8 h38) (fun z42 h43 z42Z z42E p44 => ?_)
          obtain ⟨eh43, p44⟩ := p44
          subst eh43
          refine V_if_eq 99 z42E d_Reader_readNumber_79 (by decide) (fun c45 => ?_) (fun c45 => ?_)
          ·
            refine V_iconst 0 d_Reader_readNumber_99 (by decide) ?_
            refine V_istore 4 [some (.ref 88), some (.int 8), some (.int 0), some (.int o11), some (.int 0), none] d_Reader_readNumber_100 (by decide) rfl rfl ?_
            refine V_iload_n 2 d_Reader_readNumber_102 rfl rfl ?_
            refine V_iconst 1 d_Reader_readNumber_103 (by decide) ?_
            refine V_icmp_ne 127 tc_0 tc_1 d_Reader_readNumber_104 (by decide) (fun c46 => ?_) (fun c46 => ?_)
            ·
              refine V_iconst 0 d_Reader_readNumber_127 (by decide) ?_
              refine V_istore 5 [some (.ref 88), some (.int 8), some (.int 0), some (.int o11), some (.int 0), some (.int 0)] d_Reader_readNumber_128 (by decide) rfl rfl ?_
              refine V_iload d_Reader_readNumber_130 rfl ?_
              refine V_if_ne 140 tc_0 d_Reader_readNumber_132 (by decide) (fun c47 => ?_) (fun c47 => ?_)
              ·
                exact absurd c47 (by decide)
              ·
                refine V_iload d_Reader_readNumber_135 rfl ?_
                refine V_if_eq 155 tc_0 d_Reader_readNumber_137 (by decide) (fun c48 => ?_) (fun c48 => ?_)
                ·
                  refine V_iconst 1 d_Reader_readNumber_155 (by decide) ?_
                  refine V_goto 160 d_Reader_readNumber_156 (by decide) ?_
                  exact V_zret rfl (by decide) d_Reader_readNumber_160 ⟨1, rfl, ⟨hI39, f40, o8, o8Z, o8E, (kn_ne eh38 (kn_call fh15 o8K rfl) (by decide)), o9, o9Z, o9E, (kn_ne eh38 (kn_call fh15 o9K rfl) (by decide)), o10, o10Z, o10E, (kn_ne eh38 (kn_call fh15 o10K rfl) (by decide)), o11, o11Z, o11E, (kn_ne eh38 (kn_call fh15 o11K rfl) (by decide)), o19, o19Z, o19E, (kn_ne eh38 o19K (by decide)), o20, o20Z, o20E, (kn_ne eh38 o20K (by decide)), o11, o11Z, o11E, (kn_put eh38), (by have s1 := num_0 (lo := 1) (hi := 9) p5.2.2.1 p5.2.2.2.2.1 ⟨by (first | decide +kernel | omega), by (first | decide +kernel | omega)⟩; exact Or.inl ⟨rfl, by (first | decide +kernel | omega), by (first | decide +kernel | omega), by (first | decide +kernel | omega), by (first | decide +kernel | omega), by (first | decide +kernel | omega), by (first | decide +kernel | omega), by (first | decide +kernel | omega)⟩)⟩⟩
                ·
                  exact absurd c48 (by decide)
            ·
              exact absurd c46 (by decide)
          ·
            refine V_aload_n 0 d_Reader_readNumber_82 rfl rfl ?_
            refine V_getR fa_Reader_29 sk_88 rfl d_Reader_readNumber_83 ?_
            refine V_iload_n 1 d_Reader_readNumber_86 rfl rfl ?_
            refine N_iald sk_92 tc_8 (by (first | decide +kernel | omega)) d_Reader_readNumber_87 (fun z49 z49Z z49E z49e => ?_)
            refine V_iload_n 3 d_Reader_readNumber_88 rfl rfl ?_
            refine N_ishr d_Reader_readNumber_89 (fun z50 z50Z z50E z50e => ?_)
            refine V_iconst 1 d_Reader_readNumber_90 (by decide) ?_
            refine N_iand d_Reader_readNumber_91 (fun z51 z51Z z51E z51e => ?_)
            refine V_if_eq 99 z51E d_Reader_readNumber_92 (by decide) (fun c52 => ?_) (fun c52 => ?_)
            ·
              refine V_iconst 0 d_Reader_readNumber_99 (by decide) ?_
              refine V_istore 4 [some (.ref 88), some (.int 8), some (.int 0), some (.int o11), some (.int 0), none] d_Reader_readNumber_100 (by decide) rfl rfl ?_
              refine V_iload_n 2 d_Reader_readNumber_102 rfl rfl ?_
              refine V_iconst 1 d_Reader_readNumber_103 (by decide) ?_
              refine V_icmp_ne 127 tc_0 tc_1 d_Reader_readNumber_104 (by decide) (fun c53 => ?_) (fun c53 => ?_)
              ·
                refine V_iconst 0 d_Reader_readNumber_127 (by decide) ?_
                refine V_istore 5 [some (.ref 88), some (.int 8), some (.int 0), some (.int o11), some (.int 0), some (.int 0)] d_Reader_readNumber_128 (by decide) rfl rfl ?_
                refine V_iload d_Reader_readNumber_130 rfl ?_
                refine V_if_ne 140 tc_0 d_Reader_readNumber_132 (by decide) (fun c54 => ?_) (fun c54 => ?_)
                ·
                  exact absurd c54 (by decide)
                ·
                  refine V_iload d_Reader_readNumber_135 rfl ?_
                  refine V_if_eq 155 tc_0 d_Reader_readNumber_137 (by decide) (fun c55 => ?_) (fun c55 => ?_)
                  ·
                    refine V_iconst 1 d_Reader_readNumber_155 (by decide) ?_
                    refine V_goto 160 d_Reader_readNumber_156 (by decide) ?_
                    exact V_zret rfl (by decide) d_Reader_readNumber_160 ⟨1, rfl, ⟨hI39, f40, o8, o8Z, o8E, (kn_ne eh38 (kn_call fh15 o8K rfl) (by decide)), o9, o9Z, o9E, (kn_ne eh38 (kn_call fh15 o9K rfl) (by decide)), o10, o10Z, o10E, (kn_ne eh38 (kn_call fh15 o10K rfl) (by decide)), o11, o11Z, o11E, (kn_ne eh38 (kn_call fh15 o11K rfl) (by decide)), o19, o19Z, o19E, (kn_ne eh38 o19K (by decide)), o20, o20Z, o20E, (kn_ne eh38 o20K (by decide)), o11, o11Z, o11E, (kn_put eh38), (by have s1 := num_0 (lo := 1) (hi := 9) p5.2.2.1 p5.2.2.2.2.1 ⟨by (first | decide +kernel | omega), by (first | decide +kernel | omega)⟩; exact Or.inl ⟨rfl, by (first | decide +kernel | omega), by (first | decide +kernel | omega), by (first | decide +kernel | omega), by (first | decide +kernel | omega), by (first | decide +kernel | omega), by (first | decide +kernel | omega), by (first | decide +kernel | omega)⟩)⟩⟩
                  ·
                    exact absurd c55 (by decide)
              ·
                exact absurd c53 (by decide)
            ·
              refine V_iconst 1 d_Reader_readNumber_95 (by decide) ?_
              refine V_goto 100 d_Reader_readNumber_96 (by decide) ?_
              refine V_istore 4 [some (.ref 88), some (.int 8), some (.int 0), some (.int o11), some (.int 1), none] d_Reader_readNumber_100 (by decide) rfl rfl ?_
              refine V_iload_n 2 d_Reader_readNumber_102 rfl rfl ?_
              refine V_iconst 1 d_Reader_readNumber_103 (by decide) ?_
              refine V_icmp_ne 127 tc_0 tc_1 d_Reader_readNumber_104 (by decide) (fun c56 => ?_) (fun c56 => ?_)
              ·
                refine V_iconst 0 d_Reader_readNumber_127 (by decide) ?_
                refine V_istore 5 [some (.ref 88), some (.int 8), some (.int 0), some (.int o11), some (.int 1), some (.int 0)] d_Reader_readNumber_128 (by decide) rfl rfl ?_
                refine V_iload d_Reader_readNumber_130 rfl ?_
                refine V_if_ne 140 tc_1 d_Reader_readNumber_132 (by decide) (fun c57 => ?_) (fun c57 => ?_)
                ·
                  refine V_aload_n 0 d_Reader_readNumber_140 rfl rfl ?_
                  refine V_iconst 4 d_Reader_readNumber_141 (by decide) ?_
                  refine V_aload_n 0 d_Reader_readNumber_142 rfl rfl ?_
                  refine V_getR fa_Reader_12 sk_88 rfl d_Reader_readNumber_143 ?_
                  refine N_getK fa_Reader_81 sk_89 rfl d_Reader_readNumber_146 (kn_ne eh38 (kn_call fh15 o9K rfl) (by decide)) ?_
                  refine N_callVI [.int 4, .int o9] [] cv_Reader_64 sk_88 rfl d_Reader_readNumber_149 rfl (Nat.le_of_ble_eq_true rfl) (by decide) (by decide) (c_Reader_isRefusedX h38 hI39 4 4 tc_4 o9 o9Z o9E) (fun z58 h59 z58Z z58E p60 => ?_)
                  obtain ⟨hI61, fh59, o63, o63Z, o63E, o63K, o64, o64Z, o64E, o64K, p60⟩ := p60
                  have f62 : fr S_Reader_readNumberX_8_0 h h59 := fr_call f40 fh59 rfl
                  refine V_if_eq 159 z58E d_Reader_readNumber_152 (by decide) (fun c65 => ?_) (fun c65 => ?_)
                  ·
                    refine V_iconst 0 d_Reader_readNumber_159 (by decide) ?_
                    exact V_zret rfl (by decide) d_Reader_readNumber_160 ⟨0, rfl, ⟨hI61, f62, o8, o8Z, o8E, (kn_call fh59 (kn_ne eh38 (kn_call fh15 o8K rfl) (by decide)) rfl), o9, o9Z, o9E, (kn_call fh59 (kn_ne eh38 (kn_call fh15 o9K rfl) (by decide)) rfl), o10, o10Z, o10E, (kn_call fh59 (kn_ne eh38 (kn_call fh15 o10K rfl) (by decide)) rfl), o11, o11Z, o11E, (kn_call fh59 (kn_ne eh38 (kn_call fh15 o11K rfl) (by decide)) rfl), o63, o63Z, o63E, o63K, o64, o64Z, o64E, o64K, o11, o11Z, o11E, (kn_call fh59 (kn_put eh38) rfl), (by have s1 := num_0 (lo := 1) (hi := 9) p5.2.2.1 p5.2.2.2.2.1 ⟨by (first | decide +kernel | omega), by (first | decide +kernel | omega)⟩; exact Or.inr ⟨tc_0, ⟨by (first | decide +kernel | omega), by (first | decide +kernel | omega)⟩, by (first | decide +kernel | omega)⟩)⟩⟩
                  ·
                    refine V_iconst 1 d_Reader_readNumber_155 (by decide) ?_
                    refine V_goto 160 d_Reader_readNumber_156 (by decide) ?_
                    exact V_zret rfl (by decide) d_Reader_readNumber_160 ⟨1, rfl, ⟨hI61, f62, o8, o8Z, o8E, (kn_call fh59 (kn_ne eh38 (kn_call fh15 o8K rfl) (by decide)) rfl), o9, o9Z, o9E, (kn_call fh59 (kn_ne eh38 (kn_call fh15 o9K rfl) (by decide)) rfl), o10, o10Z, o10E, (kn_call fh59 (kn_ne eh38 (kn_call fh15 o10K rfl) (by decide)) rfl), o11, o11Z, o11E, (kn_call fh59 (kn_ne eh38 (kn_call fh15 o11K rfl) (by decide)) rfl), o63, o63Z, o63E, o63K, o64, o64Z, o64E, o64K, o11, o11Z, o11E, (kn_call fh59 (kn_put eh38) rfl), (by have s1 := num_0 (lo := 1) (hi := 9) p5.2.2.1 p5.2.2.2.2.1 ⟨by (first | decide +kernel | omega), by (first | decide +kernel | omega)⟩; exact Or.inl ⟨rfl, by (first | decide +kernel | omega), by (first | decide +kernel | omega), by (first | decide +kernel | omega), by (first | decide +kernel | omega), by (first | decide +kernel | omega), by (first | decide +kernel | omega), by (first | decide +kernel | omega)⟩)⟩⟩
                ·
                  exact absurd c57 (by decide)
              ·
                exact absurd c56 (by decide)
      ·
        refine V_aload_n 0 d_Reader_readNumber_51 rfl rfl ?_
        refine V_iconst 3 d_Reader_readNumber_52 (by decide) ?_
        refine V_aload_n 0 d_Reader_readNumber_53 rfl rfl ?_
        refine V_getR fa_Reader_12 sk_88 rfl d_Reader_readNumber_54 ?_
        refine N_getK fa_Reader_81 sk_89 rfl d_Reader_readNumber_57 (kn_call fh15 o9K rfl) ?_
        refine N_callVI [.int 3, .int o9] [] cv_Reader_64 sk_88 rfl d_Reader_readNumber_60 rfl (Nat.le_of_ble_eq_true rfl) (by decide) (by decide) (c_Reader_isRefusedX h15 hI17 3 3 tc_3 o9 o9Z o9E) (fun z66 h67 z66Z z66E p68 => ?_)
        obtain ⟨hI69, fh67, o71, o71Z, o71E, o71K, o72, o72Z, o72E, o72K, p68⟩ := p68
        have f70 : fr S_Reader_readNumberX_8_0 h h67 := fr_call f18 fh67 rfl
        obtain ⟨z73, z73Z, z73E, z73e⟩ : ∃ (y : Int32) (Y : Int), y.toInt = Y ∧ y = h67.1 91 0 := ⟨_, _, rfl, rfl⟩
        exact V_zret rfl (by rw [z66E]; omega) d_Reader_readNumber_63 ⟨z66, rfl, ⟨hI69, f70, o8, o8Z, o8E, (kn_call fh67 (kn_call fh15 o8K rfl) rfl), o9, o9Z, o9E, (kn_call fh67 (kn_call fh15 o9K rfl) rfl), o10, o10Z, o10E, (kn_call fh67 (kn_call fh15 o10K rfl) rfl), o11, o11Z, o11E, (kn_call fh67 (kn_call fh15 o11K rfl) rfl), o71, o71Z, o71E, o71K, o72, o72Z, o72E, o72K, z73, z73Z, z73E, z73e.symm, (by have s1 := num_3 (lo := 1) (hi := 9) p5.2.2.1 p5.2.2.2.2.1 (by (first | decide +kernel | omega)); exact Or.inr ⟨by (first | decide +kernel | omega), ⟨by (first | decide +kernel | omega), by (first | decide +kernel | omega)⟩, by (first | decide +kernel | omega)⟩)⟩⟩
  ·
    have hk9 := num_k 1 9 p5 p16 (by (first | decide +kernel | omega))
    refine V_iconst 0 d_Reader_readNumber_15 (by decide) ?_
    obtain ⟨z74, z74Z, z74E, z74e⟩ : ∃ (y : Int32) (Y : Int), y.toInt = Y ∧ y = h15.1 91 0 := ⟨_, _, rfl, rfl⟩
    exact V_zret rfl (by decide) d_Reader_readNumber_16 ⟨0, rfl, ⟨hI17, f18, o8, o8Z, o8E, (kn_call fh15 o8K rfl), o9, o9Z, o9E, (kn_call fh15 o9K rfl), o10, o10Z, o10E, (kn_call fh15 o10K rfl), o11, o11Z, o11E, (kn_call fh15 o11K rfl), o19, o19Z, o19E, o19K, o20, o20Z, o20E, o20K, z74, z74Z, z74E, z74e.symm, (Or.inr ⟨tc_0, ⟨hk9.1, hk9.2.1⟩, hk9.2.2⟩)⟩⟩
def S_Reader_readNumberX_9_0 : List (Nat × Option Nat) := [(89, some 2), (89, some 3), (89, some 4), (89, some 5), (88, some 5), (88, some 6), (91, some 0)]
abbrev q_Reader_readNumberX_9_0 (h : Hp) (b : Int → Int) (T : Nat → Int → Int) (s : Int32) (sZ : Int) (t : Int32) (tZ : Int) (a : Int32) (aZ : Int) (w : Int32) (wZ : Int) : Option Value → Hp → Prop := pInt (fun r h' => Inv h' ∧ fr S_Reader_readNumberX_9_0 h h' ∧ ∃ (k : Int32) (kZ : Int), k.toInt = kZ ∧ h'.1 89 2 = k ∧ ∃ (f : Int32) (fZ : Int), f.toInt = fZ ∧ h'.1 89 3 = f ∧ ∃ (u : Int32) (uZ : Int), u.toInt = uZ ∧ h'.1 89 4 = u ∧ ∃ (v : Int32) (vZ : Int), v.toInt = vZ ∧ h'.1 89 5 = v ∧ ∃ (e : Int32) (eZ : Int), e.toInt = eZ ∧ h'.1 88 6 = e ∧ ∃ (y : Int32) (yZ : Int), y.toInt = yZ ∧ h'.1 88 5 = y ∧ ∃ (x : Int32) (xZ : Int), x.toInt = xZ ∧ h'.1 91 0 = x ∧ (r.toInt = 1 ∧ x_cN b tZ 0 3 = 0 ∧ uZ = x_en b tZ ∧ xZ = x_vl b tZ ∧ eZ = wZ ∧ yZ = aZ ∧ tZ < uZ ∧ uZ ≤ sZ ∨ r.toInt = 0 ∧ (x_cN b tZ 0 3 ≠ 0 ∧ eZ = x_cN b tZ 0 3) ∧ yZ = x_fr b tZ))
set_option maxRecDepth 100000 in
theorem c_Reader_readNumberX_9_0 (h : Hp) (b : Int → Int) (T : Nat → Int → Int) (hI : Inv h) (s : Int32) (sZ : Int) (sE : s.toInt = sZ) (sK : h.1 89 1 = s) (t : Int32) (tZ : Int) (tE : t.toInt = tZ) (tK : h.1 89 4 = t) (a : Int32) (aZ : Int) (aE : a.toInt = aZ) (aK : h.1 88 5 = a) (w : Int32) (wZ : Int) (wE : w.toInt = wZ) (wK : h.1 88 6 = w) (hy0 : TP h 90 sZ b) (hy1 : 0 ≤ tZ ∧ tZ ≤ sZ) : Ct y_Reader_readNumber b_Reader_readNumber 6 (some .boolean) 3 60 [.ref 88, .int 9, .int 0] h (q_Reader_readNumberX_9_0 h b T s sZ t tZ a aZ w wZ) := by
  refine ct_ow R_Reader [some (.ref 88), some (.int 9), some (.int 0), none, none, none] rfl (by decide) rfl (Nat.le_of_ble_eq_true rfl) ?_
  have f0 : fr S_Reader_readNumberX_9_0 h h := fr_rf
  have g1 : 0 ≤ sZ ∧ sZ ≤ 160 := inv_at hI sE sK.symm rfl
  have g2 : 0 ≤ tZ ∧ tZ ≤ 160 := inv_at hI tE tK.symm rfl
  refine V_aload_n 0 d_Reader_readNumber_0 rfl rfl ?_
  refine V_getR fa_Reader_12 sk_88 rfl d_Reader_readNumber_1 ?_
  refine N_callVV [] [] cv_Reader_48 sk_89 rfl d_Reader_readNumber_4 rfl (Nat.le_of_ble_eq_true rfl) (by decide) (by decide) (c_Tape_advanceX h b hI s sZ sE sK t tZ tE tK (TP_fr f0 (fun _ => rfl) hy0) (by (first | decide +kernel | omega))) (fun h4 p5 => ?_)
  obtain ⟨hI6, fh4, o8, o8Z, o8E, o8K, o9, o9Z, o9E, o9K, o10, o10Z, o10E, o10K, o11, o11Z, o11E, o11K, p5⟩ := p5
  have f7 : fr S_Reader_readNumberX_9_0 h h4 := fr_call f0 fh4 rfl
  have g12 : 0 ≤ o9Z ∧ o9Z ≤ 160 := inv_at hI6 o9E o9K.symm rfl
  have g13 : 0 ≤ o10Z ∧ o10Z ≤ 160 := inv_at hI6 o10E o10K.symm rfl
  refine V_aload_n 0 d_Reader_readNumber_7 rfl rfl ?_
  refine V_iconst 2 d_Reader_readNumber_8 (by decide) ?_
  refine N_callVI [.int 2] [] cv_Reader_84 sk_88 rfl d_Reader_readNumber_9 rfl (Nat.le_of_ble_eq_true rfl) (by decide) (by decide) (c_Reader_isKindX h4 hI6 2 2 tc_2 o8 o8Z o8E o8K o9 o9Z o9E o9K a aZ aE (kn_call fh4 aK rfl) w wZ wE (kn_call fh4 wK rfl)) (fun z14 h15 z14Z z14E p16 => ?_)
  obtain ⟨hI17, fh15, o19, o19Z, o19E, o19K, o20, o20Z, o20E, o20K, p16⟩ := p16
  have f18 : fr S_Reader_readNumberX_9_0 h h15 := fr_call f7 fh15 rfl
  refine V_if_ne 17 z14E d_Reader_readNumber_12 (by decide) (fun c21 => ?_) (fun c21 => ?_)
  ·
    replace p16 := kd_y p16 (by (first | decide +kernel | omega))
    replace p5 := adv_2 p5 (by (first | decide +kernel | omega))
    refine V_aload_n 0 d_Reader_readNumber_17 rfl rfl ?_
    refine V_getR fa_Reader_12 sk_88 rfl d_Reader_readNumber_18 ?_
    refine N_getK fa_Reader_122 sk_89 rfl d_Reader_readNumber_21 (kn_call fh15 o11K rfl) ?_
    refine V_istore_n 3 [some (.ref 88), some (.int 9), some (.int 0), some (.int o11), none, none] d_Reader_readNumber_24 rfl (by decide) rfl rfl ?_
    refine V_iload_n 3 d_Reader_readNumber_25 rfl rfl ?_
    refine V_gets (v := .ref 133) zL ws_Reader_125 d_Reader_readNumber_26 ?_
    refine V_iconst 3 d_Reader_readNumber_29 (by decide) ?_
    refine V_iload_n 1 d_Reader_readNumber_30 rfl rfl ?_
    refine V_imulw d_Reader_readNumber_31 (fun z22 z22e => ?_)
    obtain rfl : z22 = 27 := z22e.trans (by decide)
    refine V_iload_n 2 d_Reader_readNumber_32 rfl rfl ?_
    refine V_iaddw d_Reader_readNumber_33 (fun z23 z23e => ?_)
    obtain rfl : z23 = 27 := z23e.trans (by decide)
    refine V_tald roL tc_27 (by decide) d_Reader_readNumber_34 (fun z24 z24Z z24E z24e => ?_)
    obtain rfl : z24 = 0 := z24e.trans rfl
    refine V_icmp_lt 51 o11E tc_0 d_Reader_readNumber_35 (by decide) (fun c25 => ?_) (fun c25 => ?_)
    ·
      refine V_aload_n 0 d_Reader_readNumber_51 rfl rfl ?_
      refine V_iconst 3 d_Reader_readNumber_52 (by decide) ?_
      refine V_aload_n 0 d_Reader_readNumber_53 rfl rfl ?_
      refine V_getR fa_Reader_12 sk_88 rfl d_Reader_readNumber_54 ?_
      refine N_getK fa_Reader_81 sk_89 rfl d_Reader_readNumber_57 (kn_call fh15 o9K rfl) ?_
      refine N_callVI [.int 3, .int o9] [] cv_Reader_64 sk_88 rfl d_Reader_readNumber_60 rfl (Nat.le_of_ble_eq_true rfl) (by decide) (by decide) (c_Reader_isRefusedX h15 hI17 3 3 tc_3 o9 o9Z o9E) (fun z26 h27 z26Z z26E p28 => ?_)
      obtain ⟨hI29, fh27, o31, o31Z, o31E, o31K, o32, o32Z, o32E, o32K, p28⟩ := p28
      have f30 : fr S_Reader_readNumberX_9_0 h h27 := fr_call f18 fh27 rfl
      obtain ⟨z33, z33Z, z33E, z33e⟩ : ∃ (y : Int32) (Y : Int), y.toInt = Y ∧ y = h27.1 91 0 := ⟨_, _, rfl, rfl⟩
      exact V_zret rfl (by rw [z26E]; omega) d_Reader_readNumber_63 ⟨z26, rfl, ⟨hI29, f30, o8, o8Z, o8E, (kn_call fh27 (kn_call fh15 o8K rfl) rfl), o9, o9Z, o9E, (kn_call fh27 (kn_call fh15 o9K rfl) rfl), o10, o10Z, o10E, (kn_call fh27 (kn_call fh15 o10K rfl) rfl), o11, o11Z, o11E, (kn_call fh27 (kn_call fh15 o11K rfl) rfl), o31, o31Z, o31E, o31K, o32, o32Z, o32E, o32K, z33, z33Z, z33E, z33e.symm, (by have s1 := num_3 (lo := 0) (hi := 3) p5.2.2.1 p5.2.2.2.2.1 (by (first | decide +kernel | omega)); exact Or.inr ⟨by (first | decide +kernel | omega), ⟨by (first | decide +kernel | omega), by (first | decide +kernel | omega)⟩, by (first | decide +kernel | omega)⟩)⟩⟩
    ·
      refine V_iload_n 3 d_Reader_readNumber_38 rfl rfl ?_
      refine V_gets (v := .ref 134) zM ws_Reader_128 d_Reader_readNumber_39 ?_
      refine V_iconst 3 d_Reader_readNumber_42 (by decide) ?_
      refine V_iload_n 1 d_Reader_readNumber_43 rfl rfl ?_
      refine V_imulw d_Reader_readNumber_44 (fun z34 z34e => ?_)
      obtain rfl : z34 = 27 := z34e.trans (by decide)
      refine V_iload_n 2 d_Reader_readNumber_45 rfl rfl ?_
      refine V_iaddw d_Reader_readNumber_46 (fun z35 z35e => ?_)
      obtain rfl : z35 = 27 := z35e.trans (by decide)
      refine V_tald roM tc_27 (by decide) d_Reader_readNumber_47 (fun z36 z36Z z36E z36e => ?_)
      obtain rfl : z36 = 3 := z36e.trans rfl
      refine V_icmp_le 64 o11E tc_3 d_Reader_readNumber_48 (by decide) (fun c37 => ?_) (fun c37 => ?_)
      ·
        refine V_aload_n 0 d_Reader_readNumber_64 rfl rfl ?_
        refine V_getR fa_Reader_25 sk_88 rfl d_Reader_readNumber_65 ?_
        refine V_iload_n 2 d_Reader_readNumber_68 rfl rfl ?_
        refine V_iload_n 3 d_Reader_readNumber_69 rfl rfl ?_
        refine N_iast sk_91 tc_0 (by (first | decide +kernel | omega)) d_Reader_readNumber_70 (fun h38 eh38 => ?_)
        have hI39 : Inv h38 := inv_full hI17 eh38 rfl
        have f40 : fr S_Reader_readNumberX_9_0 h h38 := fr_put f18 eh38 rfl
        refine V_iload_n 2 d_Reader_readNumber_71 rfl rfl ?_
        refine V_if_ne 99 tc_0 d_Reader_readNumber_72 (by decide) (fun c41 => ?_) (fun c41 => ?_)
        ·
          exact absurd c41 (by decide)
        ·
          refine V_iload_n 1 d_Reader_readNumber_75 rfl rfl ?_
          refine N_callSI [.int 9] [] cs_Reader_131 d_Reader_readNumber_76 rfl (Nat.le_of_ble_eq_true rfl) (by decide) (by decide) (c_Reader_isOfOneX_9 h38) (fun z42 h43 z42Z z42E p44 => ?_)
          obtain ⟨eh43, p44⟩ := p44
          subst eh43
          refine V_if_eq 99 z42E d_Reader_readNumber_79 (by decide) (fun c45 => ?_) (fun c45 => ?_)
          ·
            refine V_iconst 0 d_Reader_readNumber_99 (by decide) ?_
            refine V_istore 4 [some (.ref 88), some (.int 9), some (.int 0), some (.int o11), some (.int 0), none] d_Reader_readNumber_100 (by decide) rfl rfl ?_
            refine V_iload_n 2 d_Reader_readNumber_102 rfl rfl ?_
            refine V_iconst 1 d_Reader_readNumber_103 (by decide) ?_
            refine V_icmp_ne 127 tc_0 tc_1 d_Reader_readNumber_104 (by decide) (fun c46 => ?_) (fun c46 => ?_)
            ·
              refine V_iconst 0 d_Reader_readNumber_127 (by decide) ?_
              refine V_istore 5 [some (.ref 88), some (.int 9), some (.int 0), some (.int o11), some (.int 0), some (.int 0)] d_Reader_readNumber_128 (by decide) rfl rfl ?_
              refine V_iload d_Reader_readNumber_130 rfl ?_
              refine V_if_ne 140 tc_0 d_Reader_readNumber_132 (by decide) (fun c47 => ?_) (fun c47 => ?_)
              ·
                exact absurd c47 (by decide)
              ·
                refine V_iload d_Reader_readNumber_135 rfl ?_
                refine V_if_eq 155 tc_0 d_Reader_readNumber_137 (by decide) (fun c48 => ?_) (fun c48 => ?_)
                ·
                  refine V_iconst 1 d_Reader_readNumber_155 (by decide) ?_
                  refine V_goto 160 d_Reader_readNumber_156 (by decide) ?_
                  exact V_zret rfl (by decide) d_Reader_readNumber_160 ⟨1, rfl, ⟨hI39, f40, o8, o8Z, o8E, (kn_ne eh38 (kn_call fh15 o8K rfl) (by decide)), o9, o9Z, o9E, (kn_ne eh38 (kn_call fh15 o9K rfl) (by decide)), o10, o10Z, o10E, (kn_ne eh38 (kn_call fh15 o10K rfl) (by decide)), o11, o11Z, o11E, (kn_ne eh38 (kn_call fh15 o11K rfl) (by decide)), o19, o19Z, o19E, (kn_ne eh38 o19K (by decide)), o20, o20Z, o20E, (kn_ne eh38 o20K (by decide)), o11, o11Z, o11E, (kn_put eh38), (by have s1 := num_0 (lo := 0) (hi := 3) p5.2.2.1 p5.2.2.2.2.1 ⟨by (first | decide +kernel | omega), by (first | decide +kernel | omega)⟩; exact Or.inl ⟨rfl, by (first | decide +kernel | omega), by (first | decide +kernel | omega), by (first | decide +kernel | omega), by (first | decide +kernel | omega), by (first | decide +kernel | omega), by (first | decide +kernel | omega), by (first | decide +kernel | omega)⟩)⟩⟩
                ·
                  exact absurd c48 (by decide)
            ·
              exact absurd c46 (by decide)
          ·
            refine V_aload_n 0 d_Reader_readNumber_82 rfl rfl ?_
            refine V_getR fa_Reader_29 sk_88 rfl d_Reader_readNumber_83 ?_
            refine V_iload_n 1 d_Reader_readNumber_86 rfl rfl ?_
            refine N_iald sk_92 tc_9 (by (first | decide +kernel | omega)) d_Reader_readNumber_87 (fun z49 z49Z z49E z49e => ?_)
            refine V_iload_n 3 d_Reader_readNumber_88 rfl rfl ?_
            refine N_ishr d_Reader_readNumber_89 (fun z50 z50Z z50E z50e => ?_)
            refine V_iconst 1 d_Reader_readNumber_90 (by decide) ?_
            refine N_iand d_Reader_readNumber_91 (fun z51 z51Z z51E z51e => ?_)
            refine V_if_eq 99 z51E d_Reader_readNumber_92 (by decide) (fun c52 => ?_) (fun c52 => ?_)
            ·
              refine V_iconst 0 d_Reader_readNumber_99 (by decide) ?_
              refine V_istore 4 [some (.ref 88), some (.int 9), some (.int 0), some (.int o11), some (.int 0), none] d_Reader_readNumber_100 (by decide) rfl rfl ?_
              refine V_iload_n 2 d_Reader_readNumber_102 rfl rfl ?_
              refine V_iconst 1 d_Reader_readNumber_103 (by decide) ?_
              refine V_icmp_ne 127 tc_0 tc_1 d_Reader_readNumber_104 (by decide) (fun c53 => ?_) (fun c53 => ?_)
              ·
                refine V_iconst 0 d_Reader_readNumber_127 (by decide) ?_
                refine V_istore 5 [some (.ref 88), some (.int 9), some (.int 0), some (.int o11), some (.int 0), some (.int 0)] d_Reader_readNumber_128 (by decide) rfl rfl ?_
                refine V_iload d_Reader_readNumber_130 rfl ?_
                refine V_if_ne 140 tc_0 d_Reader_readNumber_132 (by decide) (fun c54 => ?_) (fun c54 => ?_)
                ·
                  exact absurd c54 (by decide)
                ·
                  refine V_iload d_Reader_readNumber_135 rfl ?_
                  refine V_if_eq 155 tc_0 d_Reader_readNumber_137 (by decide) (fun c55 => ?_) (fun c55 => ?_)
                  ·
                    refine V_iconst 1 d_Reader_readNumber_155 (by decide) ?_
                    refine V_goto 160 d_Reader_readNumber_156 (by decide) ?_
                    exact V_zret rfl (by decide) d_Reader_readNumber_160 ⟨1, rfl, ⟨hI39, f40, o8, o8Z, o8E, (kn_ne eh38 (kn_call fh15 o8K rfl) (by decide)), o9, o9Z, o9E, (kn_ne eh38 (kn_call fh15 o9K rfl) (by decide)), o10, o10Z, o10E, (kn_ne eh38 (kn_call fh15 o10K rfl) (by decide)), o11, o11Z, o11E, (kn_ne eh38 (kn_call fh15 o11K rfl) (by decide)), o19, o19Z, o19E, (kn_ne eh38 o19K (by decide)), o20, o20Z, o20E, (kn_ne eh38 o20K (by decide)), o11, o11Z, o11E, (kn_put eh38), (by have s1 := num_0 (lo := 0) (hi := 3) p5.2.2.1 p5.2.2.2.2.1 ⟨by (first | decide +kernel | omega), by (first | decide +kernel | omega)⟩; exact Or.inl ⟨rfl, by (first | decide +kernel | omega), by (first | decide +kernel | omega), by (first | decide +kernel | omega), by (first | decide +kernel | omega), by (first | decide +kernel | omega), by (first | decide +kernel | omega), by (first | decide +kernel | omega)⟩)⟩⟩
                  ·
                    exact absurd c55 (by decide)
              ·
                exact absurd c53 (by decide)
            ·
              refine V_iconst 1 d_Reader_readNumber_95 (by decide) ?_
              refine V_goto 100 d_Reader_readNumber_96 (by decide) ?_
              refine V_istore 4 [some (.ref 88), some (.int 9), some (.int 0), some (.int o11), some (.int 1), none] d_Reader_readNumber_100 (by decide) rfl rfl ?_
              refine V_iload_n 2 d_Reader_readNumber_102 rfl rfl ?_
              refine V_iconst 1 d_Reader_readNumber_103 (by decide) ?_
              refine V_icmp_ne 127 tc_0 tc_1 d_Reader_readNumber_104 (by decide) (fun c56 => ?_) (fun c56 => ?_)
              ·
                refine V_iconst 0 d_Reader_readNumber_127 (by decide) ?_
                refine V_istore 5 [some (.ref 88), some (.int 9), some (.int 0), some (.int o11), some (.int 1), some (.int 0)] d_Reader_readNumber_128 (by decide) rfl rfl ?_
                refine V_iload d_Reader_readNumber_130 rfl ?_
                refine V_if_ne 140 tc_1 d_Reader_readNumber_132 (by decide) (fun c57 => ?_) (fun c57 => ?_)
                ·
                  refine V_aload_n 0 d_Reader_readNumber_140 rfl rfl ?_
                  refine V_iconst 4 d_Reader_readNumber_141 (by decide) ?_
                  refine V_aload_n 0 d_Reader_readNumber_142 rfl rfl ?_
                  refine V_getR fa_Reader_12 sk_88 rfl d_Reader_readNumber_143 ?_
                  refine N_getK fa_Reader_81 sk_89 rfl d_Reader_readNumber_146 (kn_ne eh38 (kn_call fh15 o9K rfl) (by decide)) ?_
                  refine N_callVI [.int 4, .int o9] [] cv_Reader_64 sk_88 rfl d_Reader_readNumber_149 rfl (Nat.le_of_ble_eq_true rfl) (by decide) (by decide) (c_Reader_isRefusedX h38 hI39 4 4 tc_4 o9 o9Z o9E) (fun z58 h59 z58Z z58E p60 => ?_)
                  obtain ⟨hI61, fh59, o63, o63Z, o63E, o63K, o64, o64Z, o64E, o64K, p60⟩ := p60
                  have f62 : fr S_Reader_readNumberX_9_0 h h59 := fr_call f40 fh59 rfl
                  refine V_if_eq 159 z58E d_Reader_readNumber_152 (by decide) (fun c65 => ?_) (fun c65 => ?_)
                  ·
                    refine V_iconst 0 d_Reader_readNumber_159 (by decide) ?_
                    exact V_zret rfl (by decide) d_Reader_readNumber_160 ⟨0, rfl, ⟨hI61, f62, o8, o8Z, o8E, (kn_call fh59 (kn_ne eh38 (kn_call fh15 o8K rfl) (by decide)) rfl), o9, o9Z, o9E, (kn_call fh59 (kn_ne eh38 (kn_call fh15 o9K rfl) (by decide)) rfl), o10, o10Z, o10E, (kn_call fh59 (kn_ne eh38 (kn_call fh15 o10K rfl) (by decide)) rfl), o11, o11Z, o11E, (kn_call fh59 (kn_ne eh38 (kn_call fh15 o11K rfl) (by decide)) rfl), o63, o63Z, o63E, o63K, o64, o64Z, o64E, o64K, o11, o11Z, o11E, (kn_call fh59 (kn_put eh38) rfl), (by have s1 := num_0 (lo := 0) (hi := 3) p5.2.2.1 p5.2.2.2.2.1 ⟨by (first | decide +kernel | omega), by (first | decide +kernel | omega)⟩; exact Or.inr ⟨tc_0, ⟨by (first | decide +kernel | omega), by (first | decide +kernel | omega)⟩, by (first | decide +kernel | omega)⟩)⟩⟩
                  ·
                    refine V_iconst 1 d_Reader_readNumber_155 (by decide) ?_
                    refine V_goto 160 d_Reader_readNumber_156 (by decide) ?_
                    exact V_zret rfl (by decide) d_Reader_readNumber_160 ⟨1, rfl, ⟨hI61, f62, o8, o8Z, o8E, (kn_call fh59 (kn_ne eh38 (kn_call fh15 o8K rfl) (by decide)) rfl), o9, o9Z, o9E, (kn_call fh59 (kn_ne eh38 (kn_call fh15 o9K rfl) (by decide)) rfl), o10, o10Z, o10E, (kn_call fh59 (kn_ne eh38 (kn_call fh15 o10K rfl) (by decide)) rfl), o11, o11Z, o11E, (kn_call fh59 (kn_ne eh38 (kn_call fh15 o11K rfl) (by decide)) rfl), o63, o63Z, o63E, o63K, o64, o64Z, o64E, o64K, o11, o11Z, o11E, (kn_call fh59 (kn_put eh38) rfl), (by have s1 := num_0 (lo := 0) (hi := 3) p5.2.2.1 p5.2.2.2.2.1 ⟨by (first | decide +kernel | omega), by (first | decide +kernel | omega)⟩; exact Or.inl ⟨rfl, by (first | decide +kernel | omega), by (first | decide +kernel | omega), by (first | decide +kernel | omega), by (first | decide +kernel | omega), by (first | decide +kernel | omega), by (first | decide +kernel | omega), by (first | decide +kernel | omega)⟩)⟩⟩
                ·
                  exact absurd c57 (by decide)
              ·
                exact absurd c56 (by decide)
      ·
        refine V_aload_n 0 d_Reader_readNumber_51 rfl rfl ?_
        refine V_iconst 3 d_Reader_readNumber_52 (by decide) ?_
        refine V_aload_n 0 d_Reader_readNumber_53 rfl rfl ?_
        refine V_getR fa_Reader_12 sk_88 rfl d_Reader_readNumber_54 ?_
        refine N_getK fa_Reader_81 sk_89 rfl d_Reader_readNumber_57 (kn_call fh15 o9K rfl) ?_
        refine N_callVI [.int 3, .int o9] [] cv_Reader_64 sk_88 rfl d_Reader_readNumber_60 rfl (Nat.le_of_ble_eq_true rfl) (by decide) (by decide) (c_Reader_isRefusedX h15 hI17 3 3 tc_3 o9 o9Z o9E) (fun z66 h67 z66Z z66E p68 => ?_)
        obtain ⟨hI69, fh67, o71, o71Z, o71E, o71K, o72, o72Z, o72E, o72K, p68⟩ := p68
        have f70 : fr S_Reader_readNumberX_9_0 h h67 := fr_call f18 fh67 rfl
        obtain ⟨z73, z73Z, z73E, z73e⟩ : ∃ (y : Int32) (Y : Int), y.toInt = Y ∧ y = h67.1 91 0 := ⟨_, _, rfl, rfl⟩
        exact V_zret rfl (by rw [z66E]; omega) d_Reader_readNumber_63 ⟨z66, rfl, ⟨hI69, f70, o8, o8Z, o8E, (kn_call fh67 (kn_call fh15 o8K rfl) rfl), o9, o9Z, o9E, (kn_call fh67 (kn_call fh15 o9K rfl) rfl), o10, o10Z, o10E, (kn_call fh67 (kn_call fh15 o10K rfl) rfl), o11, o11Z, o11E, (kn_call fh67 (kn_call fh15 o11K rfl) rfl), o71, o71Z, o71E, o71K, o72, o72Z, o72E, o72K, z73, z73Z, z73E, z73e.symm, (by have s1 := num_3 (lo := 0) (hi := 3) p5.2.2.1 p5.2.2.2.2.1 (by (first | decide +kernel | omega)); exact Or.inr ⟨by (first | decide +kernel | omega), ⟨by (first | decide +kernel | omega), by (first | decide +kernel | omega)⟩, by (first | decide +kernel | omega)⟩)⟩⟩
  ·
    have hk9 := num_k 0 3 p5 p16 (by (first | decide +kernel | omega))
    refine V_iconst 0 d_Reader_readNumber_15 (by decide) ?_
    obtain ⟨z74, z74Z, z74E, z74e⟩ : ∃ (y : Int32) (Y : Int), y.toInt = Y ∧ y = h15.1 91 0 := ⟨_, _, rfl, rfl⟩
    exact V_zret rfl (by decide) d_Reader_readNumber_16 ⟨0, rfl, ⟨hI17, f18, o8, o8Z, o8E, (kn_call fh15 o8K rfl), o9, o9Z, o9E, (kn_call fh15 o9K rfl), o10, o10Z, o10E, (kn_call fh15 o10K rfl), o11, o11Z, o11E, (kn_call fh15 o11K rfl), o19, o19Z, o19E, o19K, o20, o20Z, o20E, o20K, z74, z74Z, z74E, z74e.symm, (Or.inr ⟨tc_0, ⟨hk9.1, hk9.2.1⟩, hk9.2.2⟩)⟩⟩
def S_Reader_readNumberX_9_1 : List (Nat × Option Nat) := [(89, some 2), (89, some 3), (89, some 4), (89, some 5), (88, some 5), (88, some 6), (91, some 1)]
abbrev q_Reader_readNumberX_9_1 (h : Hp) (b : Int → Int) (T : Nat → Int → Int) (s : Int32) (sZ : Int) (t : Int32) (tZ : Int) (a : Int32) (aZ : Int) (w : Int32) (wZ : Int) (c : Int32) (cZ : Int) : Option Value → Hp → Prop := pInt (fun r h' => Inv h' ∧ fr S_Reader_readNumberX_9_1 h h' ∧ ∃ (k : Int32) (kZ : Int), k.toInt = kZ ∧ h'.1 89 2 = k ∧ ∃ (f : Int32) (fZ : Int), f.toInt = fZ ∧ h'.1 89 3 = f ∧ ∃ (u : Int32) (uZ : Int), u.toInt = uZ ∧ h'.1 89 4 = u ∧ ∃ (v : Int32) (vZ : Int), v.toInt = vZ ∧ h'.1 89 5 = v ∧ ∃ (e : Int32) (eZ : Int), e.toInt = eZ ∧ h'.1 88 6 = e ∧ ∃ (y : Int32) (yZ : Int), y.toInt = yZ ∧ h'.1 88 5 = y ∧ ∃ (x : Int32) (xZ : Int), x.toInt = xZ ∧ h'.1 91 1 = x ∧ (r.toInt = 1 ∧ x_cN b tZ 0 3 = 0 ∧ x_ce (x_vl b tZ) cZ = 0 ∧ uZ = x_en b tZ ∧ xZ = x_vl b tZ ∧ eZ = wZ ∧ yZ = aZ ∧ tZ < uZ ∧ uZ ≤ sZ ∨ r.toInt = 0 ∧ (x_cN b tZ 0 3 ≠ 0 ∧ eZ = x_cN b tZ 0 3 ∨ x_cN b tZ 0 3 = 0 ∧ x_ce (x_vl b tZ) cZ ≠ 0 ∧ eZ = x_ce (x_vl b tZ) cZ) ∧ yZ = x_fr b tZ))
set_option maxRecDepth 100000 in
theorem c_Reader_readNumberX_9_1 (h : Hp) (b : Int → Int) (T : Nat → Int → Int) (hI : Inv h) (s : Int32) (sZ : Int) (sE : s.toInt = sZ) (sK : h.1 89 1 = s) (t : Int32) (tZ : Int) (tE : t.toInt = tZ) (tK : h.1 89 4 = t) (a : Int32) (aZ : Int) (aE : a.toInt = aZ) (aK : h.1 88 5 = a) (w : Int32) (wZ : Int) (wE : w.toInt = wZ) (wK : h.1 88 6 = w) (c : Int32) (cZ : Int) (cE : c.toInt = cZ) (cK : h.1 91 0 = c) (hy0 : TP h 90 sZ b) (hy1 : 0 ≤ tZ ∧ tZ ≤ sZ) : Ct y_Reader_readNumber b_Reader_readNumber 6 (some .boolean) 3 60 [.ref 88, .int 9, .int 1] h (q_Reader_readNumberX_9_1 h b T s sZ t tZ a aZ w wZ c cZ) := by
  refine ct_ow R_Reader [some (.ref 88), some (.int 9), some (.int 1), none, none, none] rfl (by decide) rfl (Nat.le_of_ble_eq_true rfl) ?_
  have f0 : fr S_Reader_readNumberX_9_1 h h := fr_rf
  have g1 : 0 ≤ sZ ∧ sZ ≤ 160 := inv_at hI sE sK.symm rfl
  have g2 : 0 ≤ tZ ∧ tZ ≤ 160 := inv_at hI tE tK.symm rfl
  refine V_aload_n 0 d_Reader_readNumber_0 rfl rfl ?_
  refine V_getR fa_Reader_12 sk_88 rfl d_Reader_readNumber_1 ?_
  refine N_callVV [] [] cv_Reader_48 sk_89 rfl d_Reader_readNumber_4 rfl (Nat.le_of_ble_eq_true rfl) (by decide) (by decide) (c_Tape_advanceX h b hI s sZ sE sK t tZ tE tK (TP_fr f0 (fun _ => rfl) hy0) (by (first | decide +kernel | omega))) (fun h4 p5 => ?_)
  obtain ⟨hI6, fh4, o8, o8Z, o8E, o8K, o9, o9Z, o9E, o9K, o10, o10Z, o10E, o10K, o11, o11Z, o11E, o11K, p5⟩ := p5
  have f7 : fr S_Reader_readNumberX_9_1 h h4 := fr_call f0 fh4 rfl
  have g12 : 0 ≤ o9Z ∧ o9Z ≤ 160 := inv_at hI6 o9E o9K.symm rfl
  have g13 : 0 ≤ o10Z ∧ o10Z ≤ 160 := inv_at hI6 o10E o10K.symm rfl
  refine V_aload_n 0 d_Reader_readNumber_7 rfl rfl ?_
  refine V_iconst 2 d_Reader_readNumber_8 (by decide) ?_
  refine N_callVI [.int 2] [] cv_Reader_84 sk_88 rfl d_Reader_readNumber_9 rfl (Nat.le_of_ble_eq_true rfl) (by decide) (by decide) (c_Reader_isKindX h4 hI6 2 2 tc_2 o8 o8Z o8E o8K o9 o9Z o9E o9K a aZ aE (kn_call fh4 aK rfl) w wZ wE (kn_call fh4 wK rfl)) (fun z14 h15 z14Z z14E p16 => ?_)
  obtain ⟨hI17, fh15, o19, o19Z, o19E, o19K, o20, o20Z, o20E, o20K, p16⟩ := p16
  have f18 : fr S_Reader_readNumberX_9_1 h h15 := fr_call f7 fh15 rfl
  refine V_if_ne 17 z14E d_Reader_readNumber_12 (by decide) (fun c21 => ?_) (fun c21 => ?_)
  ·
    replace p16 := kd_y p16 (by (first | decide +kernel | omega))
    replace p5 := adv_2 p5 (by (first | decide +kernel | omega))
    refine V_aload_n 0 d_Reader_readNumber_17 rfl rfl ?_
    refine V_getR fa_Reader_12 sk_88 rfl d_Reader_readNumber_18 ?_
    refine N_getK fa_Reader_122 sk_89 rfl d_Reader_readNumber_21 (kn_call fh15 o11K rfl) ?_
    refine V_istore_n 3 [some (.ref 88), some (.int 9), some (.int 1), some (.int o11), none, none] d_Reader_readNumber_24 rfl (by decide) rfl rfl ?_
    refine V_iload_n 3 d_Reader_readNumber_25 rfl rfl ?_
    refine V_gets (v := .ref 133) zL ws_Reader_125 d_Reader_readNumber_26 ?_
    refine V_iconst 3 d_Reader_readNumber_29 (by decide) ?_
    refine V_iload_n 1 d_Reader_readNumber_30 rfl rfl ?_
    refine V_imulw d_Reader_readNumber_31 (fun z22 z22e => ?_)
    obtain rfl : z22 = 27 := z22e.trans (by decide)
    refine V_iload_n 2 d_Reader_readNumber_32 rfl rfl ?_
    refine V_iaddw d_Reader_readNumber_33 (fun z23 z23e => ?_)
    obtain rfl : z23 = 28 := z23e.trans (by decide)
    refine V_tald roL tc_28 (by decide) d_Reader_readNumber_34 (fun z24 z24Z z24E z24e => ?_)
    obtain rfl : z24 = 0 := z24e.trans rfl
    refine V_icmp_lt 51 o11E tc_0 d_Reader_readNumber_35 (by decide) (fun c25 => ?_) (fun c25 => ?_)
    ·
      refine V_aload_n 0 d_Reader_readNumber_51 rfl rfl ?_
      refine V_iconst 3 d_Reader_readNumber_52 (by decide) ?_
      refine V_aload_n 0 d_Reader_readNumber_53 rfl rfl ?_
      refine V_getR fa_Reader_12 sk_88 rfl d_Reader_readNumber_54 ?_
      refine N_getK fa_Reader_81 sk_89 rfl d_Reader_readNumber_57 (kn_call fh15 o9K rfl) ?_
      refine N_callVI [.int 3, .int o9] [] cv_Reader_64 sk_88 rfl d_Reader_readNumber_60 rfl (Nat.le_of_ble_eq_true rfl) (by decide) (by decide) (c_Reader_isRefusedX h15 hI17 3 3 tc_3 o9 o9Z o9E) (fun z26 h27 z26Z z26E p28 => ?_)
      obtain ⟨hI29, fh27, o31, o31Z, o31E, o31K, o32, o32Z, o32E, o32K, p28⟩ := p28
      have f30 : fr S_Reader_readNumberX_9_1 h h27 := fr_call f18 fh27 rfl
      obtain ⟨z33, z33Z, z33E, z33e⟩ : ∃ (y : Int32) (Y : Int), y.toInt = Y ∧ y = h27.1 91 1 := ⟨_, _, rfl, rfl⟩
      exact V_zret rfl (by rw [z26E]; omega) d_Reader_readNumber_63 ⟨z26, rfl, ⟨hI29, f30, o8, o8Z, o8E, (kn_call fh27 (kn_call fh15 o8K rfl) rfl), o9, o9Z, o9E, (kn_call fh27 (kn_call fh15 o9K rfl) rfl), o10, o10Z, o10E, (kn_call fh27 (kn_call fh15 o10K rfl) rfl), o11, o11Z, o11E, (kn_call fh27 (kn_call fh15 o11K rfl) rfl), o31, o31Z, o31E, o31K, o32, o32Z, o32E, o32K, z33, z33Z, z33E, z33e.symm, (by have s1 := num_3 (lo := 0) (hi := 3) p5.2.2.1 p5.2.2.2.2.1 (by (first | decide +kernel | omega)); exact Or.inr ⟨by (first | decide +kernel | omega), Or.inl ⟨by (first | decide +kernel | omega), by (first | decide +kernel | omega)⟩, by (first | decide +kernel | omega)⟩)⟩⟩
    ·
      refine V_iload_n 3 d_Reader_readNumber_38 rfl rfl ?_
      refine V_gets (v := .ref 134) zM ws_Reader_128 d_Reader_readNumber_39 ?_
      refine V_iconst 3 d_Reader_readNumber_42 (by decide) ?_
      refine V_iload_n 1 d_Reader_readNumber_43 rfl rfl ?_
      refine V_imulw d_Reader_readNumber_44 (fun z34 z34e => ?_)
      obtain rfl : z34 = 27 := z34e.trans (by decide)
      refine V_iload_n 2 d_Reader_readNumber_45 rfl rfl ?_
      refine V_iaddw d_Reader_readNumber_46 (fun z35 z35e => ?_)
      obtain rfl : z35 = 28 := z35e.trans (by decide)
      refine V_tald roM tc_28 (by decide) d_Reader_readNumber_47 (fun z36 z36Z z36E z36e => ?_)
      obtain rfl : z36 = 3 := z36e.trans rfl
      refine V_icmp_le 64 o11E tc_3 d_Reader_readNumber_48 (by decide) (fun c37 => ?_) (fun c37 => ?_)
      ·
        refine V_aload_n 0 d_Reader_readNumber_64 rfl rfl ?_
        refine V_getR fa_Reader_25 sk_88 rfl d_Reader_readNumber_65 ?_
        refine V_iload_n 2 d_Reader_readNumber_68 rfl rfl ?_
        refine V_iload_n 3 d_Reader_readNumber_69 rfl rfl ?_
        refine N_iast sk_91 tc_1 (by (first | decide +kernel | omega)) d_Reader_readNumber_70 (fun h38 eh38 => ?_)
        have hI39 : Inv h38 := inv_full hI17 eh38 rfl
        have f40 : fr S_Reader_readNumberX_9_1 h h38 := fr_put f18 eh38 rfl
        refine V_iload_n 2 d_Reader_readNumber_71 rfl rfl ?_
        refine V_if_ne 99 tc_1 d_Reader_readNumber_72 (by decide) (fun c41 => ?_) (fun c41 => ?_)
        ·
          refine V_iconst 0 d_Reader_readNumber_99 (by decide) ?_
          refine V_istore 4 [some (.ref 88), some (.int 9), some (.int 1), some (.int o11), some (.int 0), none] d_Reader_readNumber_100 (by decide) rfl rfl ?_
          refine V_iload_n 2 d_Reader_readNumber_102 rfl rfl ?_
          refine V_iconst 1 d_Reader_readNumber_103 (by decide) ?_
          refine V_icmp_ne 127 tc_1 tc_1 d_Reader_readNumber_104 (by decide) (fun c42 => ?_) (fun c42 => ?_)
          ·
            exact absurd c42 (by decide)
          ·
            refine V_iload_n 1 d_Reader_readNumber_107 rfl rfl ?_
            refine V_bipush 9 d_Reader_readNumber_108 (by decide) ?_
            refine V_icmp_ne 127 tc_9 tc_9 d_Reader_readNumber_110 (by decide) (fun c43 => ?_) (fun c43 => ?_)
            ·
              exact absurd c43 (by decide)
            ·
              refine V_iload_n 3 d_Reader_readNumber_113 rfl rfl ?_
              refine V_aload_n 0 d_Reader_readNumber_114 rfl rfl ?_
              refine V_getR fa_Reader_25 sk_88 rfl d_Reader_readNumber_115 ?_
              refine V_iconst 0 d_Reader_readNumber_118 (by decide) ?_
              refine N_ialdK sk_91 tc_0 (by (first | decide +kernel | omega)) d_Reader_readNumber_119 (kn_nei eh38 (kn_call fh15 (kn_call fh4 cK rfl) rfl) (by decide)) ?_
              refine V_icmp_ne 127 o11E cE d_Reader_readNumber_120 (by decide) (fun c45 => ?_) (fun c45 => ?_)
              ·
                refine V_iconst 0 d_Reader_readNumber_127 (by decide) ?_
                refine V_istore 5 [some (.ref 88), some (.int 9), some (.int 1), some (.int o11), some (.int 0), some (.int 0)] d_Reader_readNumber_128 (by decide) rfl rfl ?_
                refine V_iload d_Reader_readNumber_130 rfl ?_
                refine V_if_ne 140 tc_0 d_Reader_readNumber_132 (by decide) (fun c46 => ?_) (fun c46 => ?_)
                ·
                  exact absurd c46 (by decide)
                ·
                  refine V_iload d_Reader_readNumber_135 rfl ?_
                  refine V_if_eq 155 tc_0 d_Reader_readNumber_137 (by decide) (fun c47 => ?_) (fun c47 => ?_)
                  ·
                    refine V_iconst 1 d_Reader_readNumber_155 (by decide) ?_
                    refine V_goto 160 d_Reader_readNumber_156 (by decide) ?_
                    exact V_zret rfl (by decide) d_Reader_readNumber_160 ⟨1, rfl, ⟨hI39, f40, o8, o8Z, o8E, (kn_ne eh38 (kn_call fh15 o8K rfl) (by decide)), o9, o9Z, o9E, (kn_ne eh38 (kn_call fh15 o9K rfl) (by decide)), o10, o10Z, o10E, (kn_ne eh38 (kn_call fh15 o10K rfl) (by decide)), o11, o11Z, o11E, (kn_ne eh38 (kn_call fh15 o11K rfl) (by decide)), o19, o19Z, o19E, (kn_ne eh38 o19K (by decide)), o20, o20Z, o20E, (kn_ne eh38 o20K (by decide)), o11, o11Z, o11E, (kn_put eh38), (by have s1 := num_0 (lo := 0) (hi := 3) p5.2.2.1 p5.2.2.2.2.1 ⟨by (first | decide +kernel | omega), by (first | decide +kernel | omega)⟩; have s2 := x_ce_s (x_vl b tZ) cZ; exact Or.inl ⟨rfl, by (first | decide +kernel | omega), by (first | decide +kernel | omega), by (first | decide +kernel | omega), by (first | decide +kernel | omega), by (first | decide +kernel | omega), by (first | decide +kernel | omega), by (first | decide +kernel | omega), by (first | decide +kernel | omega)⟩)⟩⟩
                  ·
                    exact absurd c47 (by decide)
              ·
                refine V_iconst 1 d_Reader_readNumber_123 (by decide) ?_
                refine V_goto 128 d_Reader_readNumber_124 (by decide) ?_
                refine V_istore 5 [some (.ref 88), some (.int 9), some (.int 1), some (.int o11), some (.int 0), some (.int 1)] d_Reader_readNumber_128 (by decide) rfl rfl ?_
                refine V_iload d_Reader_readNumber_130 rfl ?_
                refine V_if_ne 140 tc_0 d_Reader_readNumber_132 (by decide) (fun c48 => ?_) (fun c48 => ?_)
                ·
                  exact absurd c48 (by decide)
                ·
                  refine V_iload d_Reader_readNumber_135 rfl ?_
                  refine V_if_eq 155 tc_1 d_Reader_readNumber_137 (by decide) (fun c49 => ?_) (fun c49 => ?_)
                  ·
                    exact absurd c49 (by decide)
                  ·
                    refine V_aload_n 0 d_Reader_readNumber_140 rfl rfl ?_
                    refine V_iconst 4 d_Reader_readNumber_141 (by decide) ?_
                    refine V_aload_n 0 d_Reader_readNumber_142 rfl rfl ?_
                    refine V_getR fa_Reader_12 sk_88 rfl d_Reader_readNumber_143 ?_
                    refine N_getK fa_Reader_81 sk_89 rfl d_Reader_readNumber_146 (kn_ne eh38 (kn_call fh15 o9K rfl) (by decide)) ?_
                    refine N_callVI [.int 4, .int o9] [] cv_Reader_64 sk_88 rfl d_Reader_readNumber_149 rfl (Nat.le_of_ble_eq_true rfl) (by decide) (by decide) (c_Reader_isRefusedX h38 hI39 4 4 tc_4 o9 o9Z o9E) (fun z50 h51 z50Z z50E p52 => ?_)
                    obtain ⟨hI53, fh51, o55, o55Z, o55E, o55K, o56, o56Z, o56E, o56K, p52⟩ := p52
                    have f54 : fr S_Reader_readNumberX_9_1 h h51 := fr_call f40 fh51 rfl
                    refine V_if_eq 159 z50E d_Reader_readNumber_152 (by decide) (fun c57 => ?_) (fun c57 => ?_)
                    ·
                      refine V_iconst 0 d_Reader_readNumber_159 (by decide) ?_
                      exact V_zret rfl (by decide) d_Reader_readNumber_160 ⟨0, rfl, ⟨hI53, f54, o8, o8Z, o8E, (kn_call fh51 (kn_ne eh38 (kn_call fh15 o8K rfl) (by decide)) rfl), o9, o9Z, o9E, (kn_call fh51 (kn_ne eh38 (kn_call fh15 o9K rfl) (by decide)) rfl), o10, o10Z, o10E, (kn_call fh51 (kn_ne eh38 (kn_call fh15 o10K rfl) (by decide)) rfl), o11, o11Z, o11E, (kn_call fh51 (kn_ne eh38 (kn_call fh15 o11K rfl) (by decide)) rfl), o55, o55Z, o55E, o55K, o56, o56Z, o56E, o56K, o11, o11Z, o11E, (kn_call fh51 (kn_put eh38) rfl), (by have s1 := num_0 (lo := 0) (hi := 3) p5.2.2.1 p5.2.2.2.2.1 ⟨by (first | decide +kernel | omega), by (first | decide +kernel | omega)⟩; have s2 := x_ce_s (x_vl b tZ) cZ; exact Or.inr ⟨tc_0, Or.inr ⟨by (first | decide +kernel | omega), by (first | decide +kernel | omega), by (first | decide +kernel | omega)⟩, by (first | decide +kernel | omega)⟩)⟩⟩
                    ·
                      refine V_iconst 1 d_Reader_readNumber_155 (by decide) ?_
                      refine V_goto 160 d_Reader_readNumber_156 (by decide) ?_
                      exact V_zret rfl (by decide) d_Reader_readNumber_160 ⟨1, rfl, ⟨hI53, f54, o8, o8Z, o8E, (kn_call fh51 (kn_ne eh38 (kn_call fh15 o8K rfl) (by decide)) rfl), o9, o9Z, o9E, (kn_call fh51 (kn_ne eh38 (kn_call fh15 o9K rfl) (by decide)) rfl), o10, o10Z, o10E, (kn_call fh51 (kn_ne eh38 (kn_call fh15 o10K rfl) (by decide)) rfl), o11, o11Z, o11E, (kn_call fh51 (kn_ne eh38 (kn_call fh15 o11K rfl) (by decide)) rfl), o55, o55Z, o55E, o55K, o56, o56Z, o56E, o56K, o11, o11Z, o11E, (kn_call fh51 (kn_put eh38) rfl), (by have s1 := num_0 (lo := 0) (hi := 3) p5.2.2.1 p5.2.2.2.2.1 ⟨by (first | decide +kernel | omega), by (first | decide +kernel | omega)⟩; have s2 := x_ce_s (x_vl b tZ) cZ; exact Or.inl ⟨rfl, by (first | decide +kernel | omega), by (first | decide +kernel | omega), by (first | decide +kernel | omega), by (first | decide +kernel | omega), by (first | decide +kernel | omega), by (first | decide +kernel | omega), by (first | decide +kernel | omega), by (first | decide +kernel | omega)⟩)⟩⟩
        ·
          exact absurd c41 (by decide)
      ·
        refine V_aload_n 0 d_Reader_readNumber_51 rfl rfl ?_
        refine V_iconst 3 d_Reader_readNumber_52 (by decide) ?_
        refine V_aload_n 0 d_Reader_readNumber_53 rfl rfl ?_
        refine V_getR fa_Reader_12 sk_88 rfl d_Reader_readNumber_54 ?_
        refine N_getK fa_Reader_81 sk_89 rfl d_Reader_readNumber_57 (kn_call fh15 o9K rfl) ?_
        refine N_callVI [.int 3, .int o9] [] cv_Reader_64 sk_88 rfl d_Reader_readNumber_60 rfl (Nat.le_of_ble_eq_true rfl) (by decide) (by decide) (c_Reader_isRefusedX h15 hI17 3 3 tc_3 o9 o9Z o9E) (fun z58 h59 z58Z z58E p60 => ?_)
        obtain ⟨hI61, fh59, o63, o63Z, o63E, o63K, o64, o64Z, o64E, o64K, p60⟩ := p60
        have f62 : fr S_Reader_readNumberX_9_1 h h59 := fr_call f18 fh59 rfl
        obtain ⟨z65, z65Z, z65E, z65e⟩ : ∃ (y : Int32) (Y : Int), y.toInt = Y ∧ y = h59.1 91 1 := ⟨_, _, rfl, rfl⟩
        exact V_zret rfl (by rw [z58E]; omega) d_Reader_readNumber_63 ⟨z58, rfl, ⟨hI61, f62, o8, o8Z, o8E, (kn_call fh59 (kn_call fh15 o8K rfl) rfl), o9, o9Z, o9E, (kn_call fh59 (kn_call fh15 o9K rfl) rfl), o10, o10Z, o10E, (kn_call fh59 (kn_call fh15 o10K rfl) rfl), o11, o11Z, o11E, (kn_call fh59 (kn_call fh15 o11K rfl) rfl), o63, o63Z, o63E, o63K, o64, o64Z, o64E, o64K, z65, z65Z, z65E, z65e.symm, (by have s1 := num_3 (lo := 0) (hi := 3) p5.2.2.1 p5.2.2.2.2.1 (by (first | decide +kernel | omega)); exact Or.inr ⟨by (first | decide +kernel | omega), Or.inl ⟨by (first | decide +kernel | omega), by (first | decide +kernel | omega)⟩, by (first | decide +kernel | omega)⟩)⟩⟩
  ·
    have hk9 := num_k 0 3 p5 p16 (by (first | decide +kernel | omega))
    refine V_iconst 0 d_Reader_readNumber_15 (by decide) ?_
    obtain ⟨z66, z66Z, z66E, z66e⟩ : ∃ (y : Int32) (Y : Int), y.toInt = Y ∧ y = h15.1 91 1 := ⟨_, _, rfl, rfl⟩
    exact V_zret rfl (by decide) d_Reader_readNumber_16 ⟨0, rfl, ⟨hI17, f18, o8, o8Z, o8E, (kn_call fh15 o8K rfl), o9, o9Z, o9E, (kn_call fh15 o9K rfl), o10, o10Z, o10E, (kn_call fh15 o10K rfl), o11, o11Z, o11E, (kn_call fh15 o11K rfl), o19, o19Z, o19E, o19K, o20, o20Z, o20E, o20K, z66, z66Z, z66E, z66e.symm, (Or.inr ⟨tc_0, Or.inl ⟨hk9.1, hk9.2.1⟩, hk9.2.2⟩)⟩⟩
def S_Reader_readNumberX_9_2 : List (Nat × Option Nat) := [(89, some 2), (89, some 3), (89, some 4), (89, some 5), (88, some 5), (88, some 6), (91, some 2)]
abbrev q_Reader_readNumberX_9_2 (h : Hp) (b : Int → Int) (T : Nat → Int → Int) (s : Int32) (sZ : Int) (t : Int32) (tZ : Int) (a : Int32) (aZ : Int) (w : Int32) (wZ : Int) : Option Value → Hp → Prop := pInt (fun r h' => Inv h' ∧ fr S_Reader_readNumberX_9_2 h h' ∧ ∃ (k : Int32) (kZ : Int), k.toInt = kZ ∧ h'.1 89 2 = k ∧ ∃ (f : Int32) (fZ : Int), f.toInt = fZ ∧ h'.1 89 3 = f ∧ ∃ (u : Int32) (uZ : Int), u.toInt = uZ ∧ h'.1 89 4 = u ∧ ∃ (v : Int32) (vZ : Int), v.toInt = vZ ∧ h'.1 89 5 = v ∧ ∃ (e : Int32) (eZ : Int), e.toInt = eZ ∧ h'.1 88 6 = e ∧ ∃ (y : Int32) (yZ : Int), y.toInt = yZ ∧ h'.1 88 5 = y ∧ ∃ (x : Int32) (xZ : Int), x.toInt = xZ ∧ h'.1 91 2 = x ∧ (r.toInt = 1 ∧ x_cN b tZ 1 99 = 0 ∧ uZ = x_en b tZ ∧ xZ = x_vl b tZ ∧ eZ = wZ ∧ yZ = aZ ∧ tZ < uZ ∧ uZ ≤ sZ ∨ r.toInt = 0 ∧ (x_cN b tZ 1 99 ≠ 0 ∧ eZ = x_cN b tZ 1 99) ∧ yZ = x_fr b tZ))
set_option maxRecDepth 100000 in
theorem c_Reader_readNumberX_9_2 (h : Hp) (b : Int → Int) (T : Nat → Int → Int) (hI : Inv h) (s : Int32) (sZ : Int) (sE : s.toInt = sZ) (sK : h.1 89 1 = s) (t : Int32) (tZ : Int) (tE : t.toInt = tZ) (tK : h.1 89 4 = t) (a : Int32) (aZ : Int) (aE : a.toInt = aZ) (aK : h.1 88 5 = a) (w : Int32) (wZ : Int) (wE : w.toInt = wZ) (wK : h.1 88 6 = w) (hy0 : TP h 90 sZ b) (hy1 : 0 ≤ tZ ∧ tZ ≤ sZ) : Ct y_Reader_readNumber b_Reader_readNumber 6 (some .boolean) 3 60 [.ref 88, .int 9, .int 2] h (q_Reader_readNumberX_9_2 h b T s sZ t tZ a aZ w wZ) := by
  refine ct_ow R_Reader [some (.ref 88), some (.int 9), some (.int 2), none, none, none] rfl (by decide) rfl (Nat.le_of_ble_eq_true rfl) ?_
  have f0 : fr S_Reader_readNumberX_9_2 h h := fr_rf
  have g1 : 0 ≤ sZ ∧ sZ ≤ 160 := inv_at hI sE sK.symm rfl
  have g2 : 0 ≤ tZ ∧ tZ ≤ 160 := inv_at hI tE tK.symm rfl
  refine V_aload_n 0 d_Reader_readNumber_0 rfl rfl ?_
  refine V_getR fa_Reader_12 sk_88 rfl d_Reader_readNumber_1 ?_
  refine N_callVV [] [] cv_Reader_48 sk_89 rfl d_Reader_readNumber_4 rfl (Nat.le_of_ble_eq_true rfl) (by decide) (by decide) (c_Tape_advanceX h b hI s sZ sE sK t tZ tE tK (TP_fr f0 (fun _ => rfl) hy0) (by (first | decide +kernel | omega))) (fun h4 p5 => ?_)
  obtain ⟨hI6, fh4, o8, o8Z, o8E, o8K, o9, o9Z, o9E, o9K, o10, o10Z, o10E, o10K, o11, o11Z, o11E, o11K, p5⟩ := p5
  have f7 : fr S_Reader_readNumberX_9_2 h h4 := fr_call f0 fh4 rfl
  have g12 : 0 ≤ o9Z ∧ o9Z ≤ 160 := inv_at hI6 o9E o9K.symm rfl
  have g13 : 0 ≤ o10Z ∧ o10Z ≤ 160 := inv_at hI6 o10E o10K.symm rfl
  refine V_aload_n 0 d_Reader_readNumber_7 rfl rfl ?_
  refine V_iconst 2 d_Reader_readNumber_8 (by decide) ?_
  refine N_callVI [.int 2] [] cv_Reader_84 sk_88 rfl d_Reader_readNumber_9 rfl (Nat.le_of_ble_eq_true rfl) (by decide) (by decide) (c_Reader_isKindX h4 hI6 2 2 tc_2 o8 o8Z o8E o8K o9 o9Z o9E o9K a aZ aE (kn_call fh4 aK rfl) w wZ wE (kn_call fh4 wK rfl)) (fun z14 h15 z14Z z14E p16 => ?_)
  obtain ⟨hI17, fh15, o19, o19Z, o19E, o19K, o20, o20Z, o20E, o20K, p16⟩ := p16
  have f18 : fr S_Reader_readNumberX_9_2 h h15 := fr_call f7 fh15 rfl
  refine V_if_ne 17 z14E d_Reader_readNumber_12 (by decide) (fun c21 => ?_) (fun c21 => ?_)
  ·
    replace p16 := kd_y p16 (by (first | decide +kernel | omega))
    replace p5 := adv_2 p5 (by (first | decide +kernel | omega))
    refine V_aload_n 0 d_Reader_readNumber_17 rfl rfl ?_
    refine V_getR fa_Reader_12 sk_88 rfl d_Reader_readNumber_18 ?_
    refine N_getK fa_Reader_122 sk_89 rfl d_Reader_readNumber_21 (kn_call fh15 o11K rfl) ?_
    refine V_istore_n 3 [some (.ref 88), some (.int 9), some (.int 2), some (.int o11), none, none] d_Reader_readNumber_24 rfl (by decide) rfl rfl ?_
    refine V_iload_n 3 d_Reader_readNumber_25 rfl rfl ?_
    refine V_gets (v := .ref 133) zL ws_Reader_125 d_Reader_readNumber_26 ?_
    refine V_iconst 3 d_Reader_readNumber_29 (by decide) ?_
    refine V_iload_n 1 d_Reader_readNumber_30 rfl rfl ?_
    refine V_imulw d_Reader_readNumber_31 (fun z22 z22e => ?_)
    obtain rfl : z22 = 27 := z22e.trans (by decide)
    refine V_iload_n 2 d_Reader_readNumber_32 rfl rfl ?_
    refine V_iaddw d_Reader_readNumber_33 (fun z23 z23e => ?_)
    obtain rfl : z23 = 29 := z23e.trans (by decide)
    refine V_tald roL tc_29 (by decide) d_Reader_readNumber_34 (fun z24 z24Z z24E z24e => ?_)
    obtain rfl : z24 = 1 := z24e.trans rfl
    refine V_icmp_lt 51 o11E tc_1 d_Reader_readNumber_35 (by decide) (fun c25 => ?_) (fun c25 => ?_)
    ·
      refine V_aload_n 0 d_Reader_readNumber_51 rfl rfl ?_
      refine V_iconst 3 d_Reader_readNumber_52 (by decide) ?_
      refine V_aload_n 0 d_Reader_readNumber_53 rfl rfl ?_
      refine V_getR fa_Reader_12 sk_88 rfl d_Reader_readNumber_54 ?_
      refine N_getK fa_Reader_81 sk_89 rfl d_Reader_readNumber_57 (kn_call fh15 o9K rfl) ?_
      refine N_callVI [.int 3, .int o9] [] cv_Reader_64 sk_88 rfl d_Reader_readNumber_60 rfl (Nat.le_of_ble_eq_true rfl) (by decide) (by decide) (c_Reader_isRefusedX h15 hI17 3 3 tc_3 o9 o9Z o9E) (fun z26 h27 z26Z z26E p28 => ?_)
      obtain ⟨hI29, fh27, o31, o31Z, o31E, o31K, o32, o32Z, o32E, o32K, p28⟩ := p28
      have f30 : fr S_Reader_readNumberX_9_2 h h27 := fr_call f18 fh27 rfl
      obtain ⟨z33, z33Z, z33E, z33e⟩ : ∃ (y : Int32) (Y : Int), y.toInt = Y ∧ y = h27.1 91 2 := ⟨_, _, rfl, rfl⟩
      exact V_zret rfl (by rw [z26E]; omega) d_Reader_readNumber_63 ⟨z26, rfl, ⟨hI29, f30, o8, o8Z, o8E, (kn_call fh27 (kn_call fh15 o8K rfl) rfl), o9, o9Z, o9E, (kn_call fh27 (kn_call fh15 o9K rfl) rfl), o10, o10Z, o10E, (kn_call fh27 (kn_call fh15 o10K rfl) rfl), o11, o11Z, o11E, (kn_call fh27 (kn_call fh15 o11K rfl) rfl), o31, o31Z, o31E, o31K, o32, o32Z, o32E, o32K, z33, z33Z, z33E, z33e.symm, (by have s1 := num_3 (lo := 1) (hi := 99) p5.2.2.1 p5.2.2.2.2.1 (by (first | decide +kernel | omega)); exact Or.inr ⟨by (first | decide +kernel | omega), ⟨by (first | decide +kernel | omega), by (first | decide +kernel | omega)⟩, by (first | decide +kernel | omega)⟩)⟩⟩
    ·
      refine V_iload_n 3 d_Reader_readNumber_38 rfl rfl ?_
      refine V_gets (v := .ref 134) zM ws_Reader_128 d_Reader_readNumber_39 ?_
      refine V_iconst 3 d_Reader_readNumber_42 (by decide) ?_
      refine V_iload_n 1 d_Reader_readNumber_43 rfl rfl ?_
      refine V_imulw d_Reader_readNumber_44 (fun z34 z34e => ?_)
      obtain rfl : z34 = 27 := z34e.trans (by decide)
      refine V_iload_n 2 d_Reader_readNumber_45 rfl rfl ?_
      refine V_iaddw d_Reader_readNumber_46 (fun z35 z35e => ?_)
      obtain rfl : z35 = 29 := z35e.trans (by decide)
      refine V_tald roM tc_29 (by decide) d_Reader_readNumber_47 (fun z36 z36Z z36E z36e => ?_)
      obtain rfl : z36 = 99 := z36e.trans rfl
      refine V_icmp_le 64 o11E tc_99 d_Reader_readNumber_48 (by decide) (fun c37 => ?_) (fun c37 => ?_)
      ·
        refine V_aload_n 0 d_Reader_readNumber_64 rfl rfl ?_
        refine V_getR fa_Reader_25 sk_88 rfl d_Reader_readNumber_65 ?_
        refine V_iload_n 2 d_Reader_readNumber_68 rfl rfl ?_
        refine V_iload_n 3 d_Reader_readNumber_69 rfl rfl ?_
        refine N_iast sk_91 tc_2 (by (first | decide +kernel | omega)) d_Reader_readNumber_70 (fun h38 eh38 => ?_)
        have hI39 : Inv h38 := inv_full hI17 eh38 rfl
        have f40 : fr S_Reader_readNumberX_9_2 h h38 := fr_put f18 eh38 rfl
        refine V_iload_n 2 d_Reader_readNumber_71 rfl rfl ?_
        refine V_if_ne 99 tc_2 d_Reader_readNumber_72 (by decide) (fun c41 => ?_) (fun c41 => ?_)
        ·
          refine V_iconst 0 d_Reader_readNumber_99 (by decide) ?_
          refine V_istore 4 [some (.ref 88), some (.int 9), some (.int 2), some (.int o11), some (.int 0), none] d_Reader_readNumber_100 (by decide) rfl rfl ?_
          refine V_iload_n 2 d_Reader_readNumber_102 rfl rfl ?_
          refine V_iconst 1 d_Reader_readNumber_103 (by decide) ?_
          refine V_icmp_ne 127 tc_2 tc_1 d_Reader_readNumber_104 (by decide) (fun c42 => ?_) (fun c42 => ?_)
          ·
            refine V_iconst 0 d_Reader_readNumber_127 (by decide) ?_
            refine V_istore 5 [some (.ref 88), some (.int 9), some (.int 2), some (.int o11), some (.int 0), some (.int 0)] d_Reader_readNumber_128 (by decide) rfl rfl ?_
            refine V_iload d_Reader_readNumber_130 rfl ?_
            refine V_if_ne 140 tc_0 d_Reader_readNumber_132 (by decide) (fun c43 => ?_) (fun c43 => ?_)
            ·
              exact absurd c43 (by decide)
            ·
              refine V_iload d_Reader_readNumber_135 rfl ?_
              refine V_if_eq 155 tc_0 d_Reader_readNumber_137 (by decide) (fun c44 => ?_) (fun c44 => ?_)
              ·
                refine V_iconst 1 d_Reader_readNumber_155 (by decide) ?_
                refine V_goto 160 d_Reader_readNumber_156 (by decide) ?_
                exact V_zret rfl (by decide) d_Reader_readNumber_160 ⟨1, rfl, ⟨hI39, f40, o8, o8Z, o8E, (kn_ne eh38 (kn_call fh15 o8K rfl) (by decide)), o9, o9Z, o9E, (kn_ne eh38 (kn_call fh15 o9K rfl) (by decide)), o10, o10Z, o10E, (kn_ne eh38 (kn_call fh15 o10K rfl) (by decide)), o11, o11Z, o11E, (kn_ne eh38 (kn_call fh15 o11K rfl) (by decide)), o19, o19Z, o19E, (kn_ne eh38 o19K (by decide)), o20, o20Z, o20E, (kn_ne eh38 o20K (by decide)), o11, o11Z, o11E, (kn_put eh38), (by have s1 := num_0 (lo := 1) (hi := 99) p5.2.2.1 p5.2.2.2.2.1 ⟨by (first | decide +kernel | omega), by (first | decide +kernel | omega)⟩; exact Or.inl ⟨rfl, by (first | decide +kernel | omega), by (first | decide +kernel | omega), by (first | decide +kernel | omega), by (first | decide +kernel | omega), by (first | decide +kernel | omega), by (first | decide +kernel | omega), by (first | decide +kernel | omega)⟩)⟩⟩
              ·
                exact absurd c44 (by decide)
          ·
            exact absurd c42 (by decide)
        ·
          exact absurd c41 (by decide)
      ·
        refine V_aload_n 0 d_Reader_readNumber_51 rfl rfl ?_
        refine V_iconst 3 d_Reader_readNumber_52 (by decide) ?_
        refine V_aload_n 0 d_Reader_readNumber_53 rfl rfl ?_
        refine V_getR fa_Reader_12 sk_88 rfl d_Reader_readNumber_54 ?_
        refine N_getK fa_Reader_81 sk_89 rfl d_Reader_readNumber_57 (kn_call fh15 o9K rfl) ?_
        refine N_callVI [.int 3, .int o9] [] cv_Reader_64 sk_88 rfl d_Reader_readNumber_60 rfl (Nat.le_of_ble_eq_true rfl) (by decide) (by decide) (c_Reader_isRefusedX h15 hI17 3 3 tc_3 o9 o9Z o9E) (fun z45 h46 z45Z z45E p47 => ?_)
        obtain ⟨hI48, fh46, o50, o50Z, o50E, o50K, o51, o51Z, o51E, o51K, p47⟩ := p47
        have f49 : fr S_Reader_readNumberX_9_2 h h46 := fr_call f18 fh46 rfl
        obtain ⟨z52, z52Z, z52E, z52e⟩ : ∃ (y : Int32) (Y : Int), y.toInt = Y ∧ y = h46.1 91 2 := ⟨_, _, rfl, rfl⟩
        exact V_zret rfl (by rw [z45E]; omega) d_Reader_readNumber_63 ⟨z45, rfl, ⟨hI48, f49, o8, o8Z, o8E, (kn_call fh46 (kn_call fh15 o8K rfl) rfl), o9, o9Z, o9E, (kn_call fh46 (kn_call fh15 o9K rfl) rfl), o10, o10Z, o10E, (kn_call fh46 (kn_call fh15 o10K rfl) rfl), o11, o11Z, o11E, (kn_call fh46 (kn_call fh15 o11K rfl) rfl), o50, o50Z, o50E, o50K, o51, o51Z, o51E, o51K, z52, z52Z, z52E, z52e.symm, (by have s1 := num_3 (lo := 1) (hi := 99) p5.2.2.1 p5.2.2.2.2.1 (by (first | decide +kernel | omega)); exact Or.inr ⟨by (first | decide +kernel | omega), ⟨by (first | decide +kernel | omega), by (first | decide +kernel | omega)⟩, by (first | decide +kernel | omega)⟩)⟩⟩
  ·
    have hk9 := num_k 1 99 p5 p16 (by (first | decide +kernel | omega))
    refine V_iconst 0 d_Reader_readNumber_15 (by decide) ?_
    obtain ⟨z53, z53Z, z53E, z53e⟩ : ∃ (y : Int32) (Y : Int), y.toInt = Y ∧ y = h15.1 91 2 := ⟨_, _, rfl, rfl⟩
    exact V_zret rfl (by decide) d_Reader_readNumber_16 ⟨0, rfl, ⟨hI17, f18, o8, o8Z, o8E, (kn_call fh15 o8K rfl), o9, o9Z, o9E, (kn_call fh15 o9K rfl), o10, o10Z, o10E, (kn_call fh15 o10K rfl), o11, o11Z, o11E, (kn_call fh15 o11K rfl), o19, o19Z, o19E, o19K, o20, o20Z, o20E, o20K, z53, z53Z, z53E, z53e.symm, (Or.inr ⟨tc_0, ⟨hk9.1, hk9.2.1⟩, hk9.2.2⟩)⟩⟩
end
