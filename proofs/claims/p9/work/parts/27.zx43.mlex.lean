section
def S_Mod_needsX : List (Nat × Option Nat) := [(116, some 20), (116, some 21)]
abbrev q_Mod_needsX (h : Hp) (g : Int32) (gZ : Int) (c : Int32) (cZ : Int) (f : Int32) (fZ : Int) (w : Int32) (wZ : Int) (a : Int32) (aZ : Int) : Option Value → Hp → Prop := pVd (fun h' => Inv h' ∧ fr S_Mod_needsX h h' ∧ ∃ (u : Int32) (uZ : Int), u.toInt = uZ ∧ h'.1 116 20 = u ∧ ∃ (y : Int32) (yZ : Int), y.toInt = yZ ∧ h'.1 116 21 = y ∧ ((gZ ≠ 0 ∨ wZ ≠ 0) ∧ uZ = wZ ∧ yZ = aZ ∨ gZ = 0 ∧ wZ = 0 ∧ uZ = cZ ∧ yZ = fZ))
set_option maxRecDepth 100000 in
theorem c_Mod_needsX (h : Hp) (hI : Inv h) (g : Int32) (gZ : Int) (gE : g.toInt = gZ) (c : Int32) (cZ : Int) (cE : c.toInt = cZ) (f : Int32) (fZ : Int) (fE : f.toInt = fZ) (fK : h.1 116 17 = f) (w : Int32) (wZ : Int) (wE : w.toInt = wZ) (wK : h.1 116 20 = w) (a : Int32) (aZ : Int) (aE : a.toInt = aZ) (aK : h.1 116 21 = a) : Ct y_Mod_needs b_Mod_needs 3 none 0 0 [.ref 116, .int g, .int c] h (q_Mod_needsX h g gZ c cZ f fZ w wZ a aZ) := by
  refine ct_ow R_Mod [some (.ref 116), some (.int g), some (.int c)] rfl (by decide) rfl (Nat.le_of_ble_eq_true rfl) ?_
  have f0 : fr S_Mod_needsX h h := fr_rf
  have g1 : 0 ≤ fZ ∧ fZ ≤ 160 := inv_at hI fE fK.symm rfl
  refine V_iload_n 1 d_Mod_needs_0 rfl rfl ?_
  refine V_if_ne 24 gE d_Mod_needs_1 (by decide) (fun c2 => ?_) (fun c2 => ?_)
  ·
    exact V_vret rfl d_Mod_needs_24 ⟨rfl, ⟨hI, f0, w, wZ, wE, wK, a, aZ, aE, aK, (by (first | decide +kernel | with_reducible assumption | omega))⟩⟩
  ·
    refine V_aload_n 0 d_Mod_needs_4 rfl rfl ?_
    refine N_getK fa_Mod_102 sk_116 rfl d_Mod_needs_5 wK ?_
    refine V_if_ne 24 wE d_Mod_needs_8 (by decide) (fun c3 => ?_) (fun c3 => ?_)
    ·
      exact V_vret rfl d_Mod_needs_24 ⟨rfl, ⟨hI, f0, w, wZ, wE, wK, a, aZ, aE, aK, (by (first | decide +kernel | with_reducible assumption | omega))⟩⟩
    ·
      refine V_aload_n 0 d_Mod_needs_11 rfl rfl ?_
      refine V_iload_n 2 d_Mod_needs_12 rfl rfl ?_
      refine N_putI fp_Mod_102 sk_116 rfl d_Mod_needs_13 (fun h4 eh4 => ?_)
      have hI5 : Inv h4 := inv_full hI eh4 rfl
      have f6 : fr S_Mod_needsX h h4 := fr_put f0 eh4 rfl
      refine V_aload_n 0 d_Mod_needs_16 rfl rfl ?_
      refine V_aload_n 0 d_Mod_needs_17 rfl rfl ?_
      refine N_getK fa_Mod_105 sk_116 rfl d_Mod_needs_18 (kn_nei eh4 fK (by decide)) ?_
      refine N_putI fp_Mod_108 sk_116 rfl d_Mod_needs_21 (fun h7 eh7 => ?_)
      have hI8 : Inv h7 := inv_full hI5 eh7 rfl
      have f9 : fr S_Mod_needsX h h7 := fr_put f6 eh7 rfl
      exact V_vret rfl d_Mod_needs_24 ⟨rfl, ⟨hI8, f9, c, cZ, cE, (kn_nei eh7 (kn_put eh4) (by decide)), f, fZ, fE, (kn_put eh7), (by (first | decide +kernel | with_reducible assumption | omega))⟩⟩
abbrev q_Mod_lookX (h : Hp) (b : Int → Int) (j : Int32) (jZ : Int) (s : Int32) (sZ : Int) : Option Value → Hp → Prop := pInt (fun r h' => h = h' ∧ (r.toInt = b jZ))
set_option maxRecDepth 100000 in
theorem c_Mod_lookX (h : Hp) (b : Int → Int) (hI : Inv h) (j : Int32) (jZ : Int) (jE : j.toInt = jZ) (s : Int32) (sZ : Int) (sE : s.toInt = sZ) (sK : h.1 116 15 = s) (hy0 : TP h 121 sZ b) (hy1 : 0 ≤ jZ) : Ct y_Mod_look b_Mod_look 2 (some .int) 0 0 [.ref 116, .int j] h (q_Mod_lookX h b j jZ s sZ) := by
  refine ct_ow R_Mod [some (.ref 116), some (.int j)] rfl (by decide) rfl (Nat.le_of_ble_eq_true rfl) ?_
  have f0 : fr [] h h := fr_rf
  have g1 : 0 ≤ sZ ∧ sZ ≤ 160 := inv_at hI sE sK.symm rfl
  refine V_iload_n 1 d_Mod_look_0 rfl rfl ?_
  refine V_aload_n 0 d_Mod_look_1 rfl rfl ?_
  refine N_getK fa_Mod_99 sk_116 rfl d_Mod_look_2 sK ?_
  refine V_icmp_ge 17 jE sE d_Mod_look_5 (by decide) (fun c2 => ?_) (fun c2 => ?_)
  ·
    refine V_iconst (-1) d_Mod_look_17 (by decide) ?_
    exact V_iret rfl d_Mod_look_18 ⟨(-1), rfl, ⟨rfl, (by have := TP_b hy0 jZ (by (first | decide +kernel | with_reducible assumption | omega)); (try rw [tc_m1]); omega)⟩⟩
  ·
    refine V_aload_n 0 d_Mod_look_8 rfl rfl ?_
    refine V_getR fa_Mod_23 sk_116 rfl d_Mod_look_9 ?_
    refine V_iload_n 1 d_Mod_look_12 rfl rfl ?_
    refine N_iald sk_121 jE (by (first | decide +kernel | with_reducible assumption | omega)) d_Mod_look_13 (fun z3 z3Z z3E z3e => ?_)
    have g4 : z3Z = b jZ := TP_rd (TP_fr f0 (fun _ => rfl) hy0) (by (first | decide +kernel | with_reducible assumption | omega)) z3E z3e
    refine V_goto 18 d_Mod_look_14 (by decide) ?_
    exact V_iret rfl d_Mod_look_18 ⟨z3, rfl, ⟨rfl, (by have := TP_b hy0 jZ (by (first | decide +kernel | with_reducible assumption | omega)); (try rw [z3E]); omega)⟩⟩
abbrev q_Mod_isX (h : Hp) (b : Int → Int) (n : Int32) (nZ : Int) (a : Int32) (aZ : Int) (c : Int32) (cZ : Int) (d : Int32) (dZ : Int) (s : Int32) (sZ : Int) (p : Int32) (pZ : Int) (f : Int32) (fZ : Int) : Option Value → Hp → Prop := pInt (fun r h' => h = h' ∧ (r.toInt = x_is b fZ pZ nZ aZ cZ dZ ∧ 0 ≤ r.toInt ∧ r.toInt ≤ 1))
set_option maxRecDepth 100000 in
theorem c_Mod_isX (h : Hp) (b : Int → Int) (hI : Inv h) (n : Int32) (nZ : Int) (nE : n.toInt = nZ) (a : Int32) (aZ : Int) (aE : a.toInt = aZ) (c : Int32) (cZ : Int) (cE : c.toInt = cZ) (d : Int32) (dZ : Int) (dE : d.toInt = dZ) (s : Int32) (sZ : Int) (sE : s.toInt = sZ) (sK : h.1 116 15 = s) (p : Int32) (pZ : Int) (pE : p.toInt = pZ) (pK : h.1 116 16 = p) (f : Int32) (fZ : Int) (fE : f.toInt = fZ) (fK : h.1 116 17 = f) (hy0 : TP h 121 sZ b) (hy1 : 0 ≤ fZ ∧ fZ ≤ 160) (hy2 : 0 ≤ pZ ∧ pZ ≤ 160) : Ct y_Mod_is b_Mod_is 5 (some .boolean) 1 21 [.ref 116, .int n, .int a, .int c, .int d] h (q_Mod_isX h b n nZ a aZ c cZ d dZ s sZ p pZ f fZ) := by
  refine ct_ow R_Mod [some (.ref 116), some (.int n), some (.int a), some (.int c), some (.int d)] rfl (by decide) rfl (Nat.le_of_ble_eq_true rfl) ?_
  have f0 : fr [] h h := fr_rf
  have g1 : 0 ≤ sZ ∧ sZ ≤ 160 := inv_at hI sE sK.symm rfl
  have g2 : 0 ≤ pZ ∧ pZ ≤ 160 := inv_at hI pE pK.symm rfl
  have g3 : 0 ≤ fZ ∧ fZ ≤ 160 := inv_at hI fE fK.symm rfl
  refine V_aload_n 0 d_Mod_is_0 rfl rfl ?_
  refine N_getK fa_Mod_111 sk_116 rfl d_Mod_is_1 pK ?_
  refine V_aload_n 0 d_Mod_is_4 rfl rfl ?_
  refine N_getK fa_Mod_105 sk_116 rfl d_Mod_is_5 fK ?_
  refine V_isub pE fE (by (first | decide +kernel | with_reducible assumption | omega)) d_Mod_is_8 (fun z4 z4e z4E => ?_)
  refine V_iload_n 1 d_Mod_is_9 rfl rfl ?_
  refine V_icmp_ne 58 z4E nE d_Mod_is_10 (by decide) (fun c5 => ?_) (fun c5 => ?_)
  ·
    refine V_iconst 0 d_Mod_is_58 (by decide) ?_
    exact V_zret rfl (by decide) d_Mod_is_59 ⟨0, rfl, ⟨rfl, ⟨tc_0.trans (x_is0 (by have h0 := congrArg b (Int.add_zero fZ); omega)).symm, by decide, by decide⟩⟩⟩
  ·
    refine V_aload_n 0 d_Mod_is_13 rfl rfl ?_
    refine V_aload_n 0 d_Mod_is_14 rfl rfl ?_
    refine N_getK fa_Mod_105 sk_116 rfl d_Mod_is_15 fK ?_
    refine N_callVI [.int f] [] cv_Mod_114 sk_116 rfl d_Mod_is_18 rfl (Nat.le_of_ble_eq_true rfl) (by decide) (by decide) (c_Mod_lookX h b hI f fZ fE s sZ sE sK (TP_fr f0 (fun _ => rfl) hy0) (by (first | decide +kernel | with_reducible assumption | omega))) (fun z6 h7 z6Z z6E p8 => ?_)
    obtain ⟨eh7, p8⟩ := p8
    subst eh7
    refine V_iload_n 2 d_Mod_is_21 rfl rfl ?_
    refine V_icmp_ne 58 z6E aE d_Mod_is_22 (by decide) (fun c9 => ?_) (fun c9 => ?_)
    ·
      refine V_iconst 0 d_Mod_is_58 (by decide) ?_
      exact V_zret rfl (by decide) d_Mod_is_59 ⟨0, rfl, ⟨rfl, ⟨tc_0.trans (x_is0 (by have h0 := congrArg b (Int.add_zero fZ); omega)).symm, by decide, by decide⟩⟩⟩
    ·
      refine V_aload_n 0 d_Mod_is_25 rfl rfl ?_
      refine V_aload_n 0 d_Mod_is_26 rfl rfl ?_
      refine N_getK fa_Mod_105 sk_116 rfl d_Mod_is_27 fK ?_
      refine V_iconst 1 d_Mod_is_30 (by decide) ?_
      refine V_iadd fE tc_1 (by (first | decide +kernel | with_reducible assumption | omega)) d_Mod_is_31 (fun z10 z10e z10E => ?_)
      refine N_callVI [.int z10] [] cv_Mod_114 sk_116 rfl d_Mod_is_32 rfl (Nat.le_of_ble_eq_true rfl) (by decide) (by decide) (c_Mod_lookX h b hI z10 ((fZ + 1)) z10E s sZ sE sK (TP_fr f0 (fun _ => rfl) hy0) (by (first | decide +kernel | with_reducible assumption | omega))) (fun z11 h12 z11Z z11E p13 => ?_)
      obtain ⟨eh12, p13⟩ := p13
      subst eh12
      refine V_iload_n 3 d_Mod_is_35 rfl rfl ?_
      refine V_icmp_ne 58 z11E cE d_Mod_is_36 (by decide) (fun c14 => ?_) (fun c14 => ?_)
      ·
        refine V_iconst 0 d_Mod_is_58 (by decide) ?_
        exact V_zret rfl (by decide) d_Mod_is_59 ⟨0, rfl, ⟨rfl, ⟨tc_0.trans (x_is0 (by have h0 := congrArg b (Int.add_zero fZ); omega)).symm, by decide, by decide⟩⟩⟩
      ·
        refine V_aload_n 0 d_Mod_is_39 rfl rfl ?_
        refine V_aload_n 0 d_Mod_is_40 rfl rfl ?_
        refine N_getK fa_Mod_105 sk_116 rfl d_Mod_is_41 fK ?_
        refine V_iconst 2 d_Mod_is_44 (by decide) ?_
        refine V_iadd fE tc_2 (by (first | decide +kernel | with_reducible assumption | omega)) d_Mod_is_45 (fun z15 z15e z15E => ?_)
        refine N_callVI [.int z15] [] cv_Mod_114 sk_116 rfl d_Mod_is_46 rfl (Nat.le_of_ble_eq_true rfl) (by decide) (by decide) (c_Mod_lookX h b hI z15 ((fZ + 2)) z15E s sZ sE sK (TP_fr f0 (fun _ => rfl) hy0) (by (first | decide +kernel | with_reducible assumption | omega))) (fun z16 h17 z16Z z16E p18 => ?_)
        obtain ⟨eh17, p18⟩ := p18
        subst eh17
        refine V_iload d_Mod_is_49 rfl ?_
        refine V_icmp_ne 58 z16E dE d_Mod_is_51 (by decide) (fun c19 => ?_) (fun c19 => ?_)
        ·
          refine V_iconst 0 d_Mod_is_58 (by decide) ?_
          exact V_zret rfl (by decide) d_Mod_is_59 ⟨0, rfl, ⟨rfl, ⟨tc_0.trans (x_is0 (by have h0 := congrArg b (Int.add_zero fZ); omega)).symm, by decide, by decide⟩⟩⟩
        ·
          refine V_iconst 1 d_Mod_is_54 (by decide) ?_
          refine V_goto 59 d_Mod_is_55 (by decide) ?_
          exact V_zret rfl (by decide) d_Mod_is_59 ⟨1, rfl, ⟨rfl, ⟨tc_1.trans (x_is1 (by have h0 := congrArg b (Int.add_zero fZ); omega)).symm, by decide, by decide⟩⟩⟩
abbrev q_Mod_endsX (h : Hp) (b : Int → Int) (a : Int32) (aZ : Int) (c : Int32) (cZ : Int) (d : Int32) (dZ : Int) (s : Int32) (sZ : Int) (f : Int32) (fZ : Int) : Option Value → Hp → Prop := pInt (fun r h' => h = h' ∧ (r.toInt = x_ens b fZ aZ cZ dZ ∧ 0 ≤ r.toInt ∧ r.toInt ≤ 1))
set_option maxRecDepth 100000 in
theorem c_Mod_endsX (h : Hp) (b : Int → Int) (hI : Inv h) (a : Int32) (aZ : Int) (aE : a.toInt = aZ) (c : Int32) (cZ : Int) (cE : c.toInt = cZ) (d : Int32) (dZ : Int) (dE : d.toInt = dZ) (s : Int32) (sZ : Int) (sE : s.toInt = sZ) (sK : h.1 116 15 = s) (f : Int32) (fZ : Int) (fE : f.toInt = fZ) (fK : h.1 116 17 = f) (hy0 : TP h 121 sZ b) (hy1 : 0 ≤ fZ ∧ fZ ≤ 160) : Ct y_Mod_ends b_Mod_ends 4 (some .boolean) 1 21 [.ref 116, .int a, .int c, .int d] h (q_Mod_endsX h b a aZ c cZ d dZ s sZ f fZ) := by
  refine ct_ow R_Mod [some (.ref 116), some (.int a), some (.int c), some (.int d)] rfl (by decide) rfl (Nat.le_of_ble_eq_true rfl) ?_
  have f0 : fr [] h h := fr_rf
  have g1 : 0 ≤ sZ ∧ sZ ≤ 160 := inv_at hI sE sK.symm rfl
  have g2 : 0 ≤ fZ ∧ fZ ≤ 160 := inv_at hI fE fK.symm rfl
  refine V_aload_n 0 d_Mod_ends_0 rfl rfl ?_
  refine V_aload_n 0 d_Mod_ends_1 rfl rfl ?_
  refine N_getK fa_Mod_105 sk_116 rfl d_Mod_ends_2 fK ?_
  refine V_iconst 3 d_Mod_ends_5 (by decide) ?_
  refine V_iadd fE tc_3 (by (first | decide +kernel | with_reducible assumption | omega)) d_Mod_ends_6 (fun z3 z3e z3E => ?_)
  refine N_callVI [.int z3] [] cv_Mod_114 sk_116 rfl d_Mod_ends_7 rfl (Nat.le_of_ble_eq_true rfl) (by decide) (by decide) (c_Mod_lookX h b hI z3 ((fZ + 3)) z3E s sZ sE sK (TP_fr f0 (fun _ => rfl) hy0) (by (first | decide +kernel | with_reducible assumption | omega))) (fun z4 h5 z4Z z4E p6 => ?_)
  obtain ⟨eh5, p6⟩ := p6
  subst eh5
  refine V_iload_n 1 d_Mod_ends_10 rfl rfl ?_
  refine V_icmp_ne 54 z4E aE d_Mod_ends_11 (by decide) (fun c7 => ?_) (fun c7 => ?_)
  ·
    refine V_iconst 0 d_Mod_ends_54 (by decide) ?_
    exact V_zret rfl (by decide) d_Mod_ends_55 ⟨0, rfl, ⟨rfl, ⟨tc_0.trans (x_ens0 (by (first | decide +kernel | with_reducible assumption | omega))).symm, by decide, by decide⟩⟩⟩
  ·
    refine V_iload_n 2 d_Mod_ends_14 rfl rfl ?_
    refine V_if_eq 32 cE d_Mod_ends_15 (by decide) (fun c8 => ?_) (fun c8 => ?_)
    ·
      refine V_iload_n 3 d_Mod_ends_32 rfl rfl ?_
      refine V_if_eq 50 dE d_Mod_ends_33 (by decide) (fun c9 => ?_) (fun c9 => ?_)
      ·
        refine V_iconst 1 d_Mod_ends_50 (by decide) ?_
        refine V_goto 55 d_Mod_ends_51 (by decide) ?_
        exact V_zret rfl (by decide) d_Mod_ends_55 ⟨1, rfl, ⟨rfl, ⟨tc_1.trans (x_ens1 (by (first | decide +kernel | with_reducible assumption | omega))).symm, by decide, by decide⟩⟩⟩
      ·
        refine V_aload_n 0 d_Mod_ends_36 rfl rfl ?_
        refine V_aload_n 0 d_Mod_ends_37 rfl rfl ?_
        refine N_getK fa_Mod_105 sk_116 rfl d_Mod_ends_38 fK ?_
        refine V_iconst 5 d_Mod_ends_41 (by decide) ?_
        refine V_iadd fE tc_5 (by (first | decide +kernel | with_reducible assumption | omega)) d_Mod_ends_42 (fun z10 z10e z10E => ?_)
        refine N_callVI [.int z10] [] cv_Mod_114 sk_116 rfl d_Mod_ends_43 rfl (Nat.le_of_ble_eq_true rfl) (by decide) (by decide) (c_Mod_lookX h b hI z10 ((fZ + 5)) z10E s sZ sE sK (TP_fr f0 (fun _ => rfl) hy0) (by (first | decide +kernel | with_reducible assumption | omega))) (fun z11 h12 z11Z z11E p13 => ?_)
        obtain ⟨eh12, p13⟩ := p13
        subst eh12
        refine V_iload_n 3 d_Mod_ends_46 rfl rfl ?_
        refine V_icmp_ne 54 z11E dE d_Mod_ends_47 (by decide) (fun c14 => ?_) (fun c14 => ?_)
        ·
          refine V_iconst 0 d_Mod_ends_54 (by decide) ?_
          exact V_zret rfl (by decide) d_Mod_ends_55 ⟨0, rfl, ⟨rfl, ⟨tc_0.trans (x_ens0 (by (first | decide +kernel | with_reducible assumption | omega))).symm, by decide, by decide⟩⟩⟩
        ·
          refine V_iconst 1 d_Mod_ends_50 (by decide) ?_
          refine V_goto 55 d_Mod_ends_51 (by decide) ?_
          exact V_zret rfl (by decide) d_Mod_ends_55 ⟨1, rfl, ⟨rfl, ⟨tc_1.trans (x_ens1 (by (first | decide +kernel | with_reducible assumption | omega))).symm, by decide, by decide⟩⟩⟩
    ·
      refine V_aload_n 0 d_Mod_ends_18 rfl rfl ?_
      refine V_aload_n 0 d_Mod_ends_19 rfl rfl ?_
      refine N_getK fa_Mod_105 sk_116 rfl d_Mod_ends_20 fK ?_
      refine V_iconst 4 d_Mod_ends_23 (by decide) ?_
      refine V_iadd fE tc_4 (by (first | decide +kernel | with_reducible assumption | omega)) d_Mod_ends_24 (fun z15 z15e z15E => ?_)
      refine N_callVI [.int z15] [] cv_Mod_114 sk_116 rfl d_Mod_ends_25 rfl (Nat.le_of_ble_eq_true rfl) (by decide) (by decide) (c_Mod_lookX h b hI z15 ((fZ + 4)) z15E s sZ sE sK (TP_fr f0 (fun _ => rfl) hy0) (by (first | decide +kernel | with_reducible assumption | omega))) (fun z16 h17 z16Z z16E p18 => ?_)
      obtain ⟨eh17, p18⟩ := p18
      subst eh17
      refine V_iload_n 2 d_Mod_ends_28 rfl rfl ?_
      refine V_icmp_ne 54 z16E cE d_Mod_ends_29 (by decide) (fun c19 => ?_) (fun c19 => ?_)
      ·
        refine V_iconst 0 d_Mod_ends_54 (by decide) ?_
        exact V_zret rfl (by decide) d_Mod_ends_55 ⟨0, rfl, ⟨rfl, ⟨tc_0.trans (x_ens0 (by (first | decide +kernel | with_reducible assumption | omega))).symm, by decide, by decide⟩⟩⟩
      ·
        refine V_iload_n 3 d_Mod_ends_32 rfl rfl ?_
        refine V_if_eq 50 dE d_Mod_ends_33 (by decide) (fun c20 => ?_) (fun c20 => ?_)
        ·
          refine V_iconst 1 d_Mod_ends_50 (by decide) ?_
          refine V_goto 55 d_Mod_ends_51 (by decide) ?_
          exact V_zret rfl (by decide) d_Mod_ends_55 ⟨1, rfl, ⟨rfl, ⟨tc_1.trans (x_ens1 (by (first | decide +kernel | with_reducible assumption | omega))).symm, by decide, by decide⟩⟩⟩
        ·
          refine V_aload_n 0 d_Mod_ends_36 rfl rfl ?_
          refine V_aload_n 0 d_Mod_ends_37 rfl rfl ?_
          refine N_getK fa_Mod_105 sk_116 rfl d_Mod_ends_38 fK ?_
          refine V_iconst 5 d_Mod_ends_41 (by decide) ?_
          refine V_iadd fE tc_5 (by (first | decide +kernel | with_reducible assumption | omega)) d_Mod_ends_42 (fun z21 z21e z21E => ?_)
          refine N_callVI [.int z21] [] cv_Mod_114 sk_116 rfl d_Mod_ends_43 rfl (Nat.le_of_ble_eq_true rfl) (by decide) (by decide) (c_Mod_lookX h b hI z21 ((fZ + 5)) z21E s sZ sE sK (TP_fr f0 (fun _ => rfl) hy0) (by (first | decide +kernel | with_reducible assumption | omega))) (fun z22 h23 z22Z z22E p24 => ?_)
          obtain ⟨eh23, p24⟩ := p24
          subst eh23
          refine V_iload_n 3 d_Mod_ends_46 rfl rfl ?_
          refine V_icmp_ne 54 z22E dE d_Mod_ends_47 (by decide) (fun c25 => ?_) (fun c25 => ?_)
          ·
            refine V_iconst 0 d_Mod_ends_54 (by decide) ?_
            exact V_zret rfl (by decide) d_Mod_ends_55 ⟨0, rfl, ⟨rfl, ⟨tc_0.trans (x_ens0 (by (first | decide +kernel | with_reducible assumption | omega))).symm, by decide, by decide⟩⟩⟩
          ·
            refine V_iconst 1 d_Mod_ends_50 (by decide) ?_
            refine V_goto 55 d_Mod_ends_51 (by decide) ?_
            exact V_zret rfl (by decide) d_Mod_ends_55 ⟨1, rfl, ⟨rfl, ⟨tc_1.trans (x_ens1 (by (first | decide +kernel | with_reducible assumption | omega))).symm, by decide, by decide⟩⟩⟩
abbrev q_Mod_ruleLineX (h : Hp) (b : Int → Int) (s : Int32) (sZ : Int) (p : Int32) (pZ : Int) (f : Int32) (fZ : Int) : Option Value → Hp → Prop := pInt (fun r h' => h = h' ∧ (r.toInt = 0 ∧ x_nm0 b fZ pZ = 1 ∨ r.toInt = 1 ∧ x_nm6 b fZ pZ = 1 ∨ r.toInt = 2 ∧ x_nm7 b fZ pZ = 1 ∨ r.toInt = 3 ∧ x_nm8 b fZ pZ = 1 ∨ r.toInt = -4 ∧ x_nm0 b fZ pZ = 0 ∧ x_nm6 b fZ pZ = 0 ∧ x_nm7 b fZ pZ = 0 ∧ x_nm8 b fZ pZ = 0))
set_option maxRecDepth 100000 in
theorem c_Mod_ruleLineX (h : Hp) (b : Int → Int) (hI : Inv h) (s : Int32) (sZ : Int) (sE : s.toInt = sZ) (sK : h.1 116 15 = s) (p : Int32) (pZ : Int) (pE : p.toInt = pZ) (pK : h.1 116 16 = p) (f : Int32) (fZ : Int) (fE : f.toInt = fZ) (fK : h.1 116 17 = f) (hy0 : TP h 121 sZ b) (hy1 : 0 ≤ fZ ∧ fZ ≤ 160) (hy2 : 0 ≤ pZ ∧ pZ ≤ 160) : Ct y_Mod_ruleLine b_Mod_ruleLine 1 (some .int) 2 45 [.ref 116] h (q_Mod_ruleLineX h b s sZ p pZ f fZ) := by
  refine ct_ow R_Mod [some (.ref 116)] rfl (by decide) rfl (Nat.le_of_ble_eq_true rfl) ?_
  have f0 : fr [] h h := fr_rf
  have g1 : 0 ≤ sZ ∧ sZ ≤ 160 := inv_at hI sE sK.symm rfl
  have g2 : 0 ≤ pZ ∧ pZ ≤ 160 := inv_at hI pE pK.symm rfl
  have g3 : 0 ≤ fZ ∧ fZ ≤ 160 := inv_at hI fE fK.symm rfl
  have J4 : x_nm0 b fZ pZ = 0 → V R_Mod b_Mod_ruleLine 1 (some .int) 2 45 (q_Mod_ruleLineX h b s sZ p pZ f fZ) h 30 [some (.ref 116)] [] := by
    intro q6
    have J7 : x_nm6 b fZ pZ = 0 → V R_Mod b_Mod_ruleLine 1 (some .int) 2 45 (q_Mod_ruleLineX h b s sZ p pZ f fZ) h 57 [some (.ref 116)] [] := by
      intro q9
      have J10 : x_nm7 b fZ pZ = 0 → V R_Mod b_Mod_ruleLine 1 (some .int) 2 45 (q_Mod_ruleLineX h b s sZ p pZ f fZ) h 87 [some (.ref 116)] [] := by
        intro q12
        refine V_aload_n 0 d_Mod_ruleLine_87 rfl rfl ?_
        refine V_iconst 3 d_Mod_ruleLine_88 (by decide) ?_
        refine V_bipush 114 d_Mod_ruleLine_89 (by decide) ?_
        refine V_bipush 111 d_Mod_ruleLine_91 (by decide) ?_
        refine V_bipush 100 d_Mod_ruleLine_93 (by decide) ?_
        refine N_callVI [.int 3, .int 114, .int 111, .int 100] [] cv_Mod_118 sk_116 rfl d_Mod_ruleLine_95 rfl (Nat.le_of_ble_eq_true rfl) (by decide) (by decide) (c_Mod_isX h b hI 3 3 tc_3 114 114 tc_114 111 111 tc_111 100 100 tc_100 s sZ sE sK p pZ pE pK f fZ fE fK (TP_fr f0 (fun _ => rfl) hy0) (by (first | decide +kernel | with_reducible assumption | omega)) (by (first | decide +kernel | with_reducible assumption | omega))) (fun z13 h14 z13Z z13E p15 => ?_)
        obtain ⟨eh14, p15⟩ := p15
        subst eh14
        refine V_if_eq 105 z13E d_Mod_ruleLine_98 (by decide) (fun c16 => ?_) (fun c16 => ?_)
        ·
          refine V_bipush (-4) d_Mod_ruleLine_105 (by decide) ?_
          exact V_iret rfl d_Mod_ruleLine_107 ⟨(-4), rfl, ⟨rfl, (by rw [tc_m4]; have a8 := x_nmr8 b fZ pZ; omega)⟩⟩
        ·
          refine V_iconst 3 d_Mod_ruleLine_101 (by decide) ?_
          refine V_goto 107 d_Mod_ruleLine_102 (by decide) ?_
          exact V_iret rfl d_Mod_ruleLine_107 ⟨3, rfl, ⟨rfl, (by rw [tc_3]; have a8 := x_nmr8 b fZ pZ; omega)⟩⟩
      refine V_aload_n 0 d_Mod_ruleLine_57 rfl rfl ?_
      refine V_iconst 5 d_Mod_ruleLine_58 (by decide) ?_
      refine V_bipush 112 d_Mod_ruleLine_59 (by decide) ?_
      refine V_bipush 114 d_Mod_ruleLine_61 (by decide) ?_
      refine V_bipush 105 d_Mod_ruleLine_63 (by decide) ?_
      refine N_callVI [.int 5, .int 112, .int 114, .int 105] [] cv_Mod_118 sk_116 rfl d_Mod_ruleLine_65 rfl (Nat.le_of_ble_eq_true rfl) (by decide) (by decide) (c_Mod_isX h b hI 5 5 tc_5 112 112 tc_112 114 114 tc_114 105 105 tc_105 s sZ sE sK p pZ pE pK f fZ fE fK (TP_fr f0 (fun _ => rfl) hy0) (by (first | decide +kernel | with_reducible assumption | omega)) (by (first | decide +kernel | with_reducible assumption | omega))) (fun z17 h18 z17Z z17E p19 => ?_)
      obtain ⟨eh18, p19⟩ := p19
      subst eh18
      refine V_if_eq 87 z17E d_Mod_ruleLine_68 (by decide) (fun c20 => ?_) (fun c20 => ?_)
      ·
        exact J10  (by have := x_nmr7 b fZ pZ; omega)
      ·
        refine V_aload_n 0 d_Mod_ruleLine_71 rfl rfl ?_
        refine V_bipush 99 d_Mod_ruleLine_72 (by decide) ?_
        refine V_bipush 101 d_Mod_ruleLine_74 (by decide) ?_
        refine V_iconst 0 d_Mod_ruleLine_76 (by decide) ?_
        refine N_callVI [.int 99, .int 101, .int 0] [] cv_Mod_122 sk_116 rfl d_Mod_ruleLine_77 rfl (Nat.le_of_ble_eq_true rfl) (by decide) (by decide) (c_Mod_endsX h b hI 99 99 tc_99 101 101 tc_101 0 0 tc_0 s sZ sE sK f fZ fE fK (TP_fr f0 (fun _ => rfl) hy0) (by (first | decide +kernel | with_reducible assumption | omega))) (fun z21 h22 z21Z z21E p23 => ?_)
        obtain ⟨eh22, p23⟩ := p23
        subst eh22
        refine V_if_eq 87 z21E d_Mod_ruleLine_80 (by decide) (fun c24 => ?_) (fun c24 => ?_)
        ·
          exact J10  (by have := x_nmr7 b fZ pZ; omega)
        ·
          refine V_iconst 2 d_Mod_ruleLine_83 (by decide) ?_
          refine V_goto 107 d_Mod_ruleLine_84 (by decide) ?_
          exact V_iret rfl d_Mod_ruleLine_107 ⟨2, rfl, ⟨rfl, (by rw [tc_2]; have a7 := x_nmr7 b fZ pZ; omega)⟩⟩
    refine V_aload_n 0 d_Mod_ruleLine_30 rfl rfl ?_
    refine V_iconst 4 d_Mod_ruleLine_31 (by decide) ?_
    refine V_bipush 99 d_Mod_ruleLine_32 (by decide) ?_
    refine V_bipush 111 d_Mod_ruleLine_34 (by decide) ?_
    refine V_bipush 115 d_Mod_ruleLine_36 (by decide) ?_
    refine N_callVI [.int 4, .int 99, .int 111, .int 115] [] cv_Mod_118 sk_116 rfl d_Mod_ruleLine_38 rfl (Nat.le_of_ble_eq_true rfl) (by decide) (by decide) (c_Mod_isX h b hI 4 4 tc_4 99 99 tc_99 111 111 tc_111 115 115 tc_115 s sZ sE sK p pZ pE pK f fZ fE fK (TP_fr f0 (fun _ => rfl) hy0) (by (first | decide +kernel | with_reducible assumption | omega)) (by (first | decide +kernel | with_reducible assumption | omega))) (fun z25 h26 z25Z z25E p27 => ?_)
    obtain ⟨eh26, p27⟩ := p27
    subst eh26
    refine V_if_eq 57 z25E d_Mod_ruleLine_41 (by decide) (fun c28 => ?_) (fun c28 => ?_)
    ·
      exact J7  (by have := x_nmr6 b fZ pZ; omega)
    ·
      refine V_aload_n 0 d_Mod_ruleLine_44 rfl rfl ?_
      refine V_bipush 116 d_Mod_ruleLine_45 (by decide) ?_
      refine V_iconst 0 d_Mod_ruleLine_47 (by decide) ?_
      refine V_iconst 0 d_Mod_ruleLine_48 (by decide) ?_
      refine N_callVI [.int 116, .int 0, .int 0] [] cv_Mod_122 sk_116 rfl d_Mod_ruleLine_49 rfl (Nat.le_of_ble_eq_true rfl) (by decide) (by decide) (c_Mod_endsX h b hI 116 116 tc_116 0 0 tc_0 0 0 tc_0 s sZ sE sK f fZ fE fK (TP_fr f0 (fun _ => rfl) hy0) (by (first | decide +kernel | with_reducible assumption | omega))) (fun z29 h30 z29Z z29E p31 => ?_)
      obtain ⟨eh30, p31⟩ := p31
      subst eh30
      refine V_if_eq 57 z29E d_Mod_ruleLine_52 (by decide) (fun c32 => ?_) (fun c32 => ?_)
      ·
        exact J7  (by have := x_nmr6 b fZ pZ; omega)
      ·
        refine V_iconst 1 d_Mod_ruleLine_55 (by decide) ?_
        exact V_iret rfl d_Mod_ruleLine_56 ⟨1, rfl, ⟨rfl, (by rw [tc_1]; have a6 := x_nmr6 b fZ pZ; omega)⟩⟩
  refine V_aload_n 0 d_Mod_ruleLine_0 rfl rfl ?_
  refine V_bipush 6 d_Mod_ruleLine_1 (by decide) ?_
  refine V_bipush 99 d_Mod_ruleLine_3 (by decide) ?_
  refine V_bipush 111 d_Mod_ruleLine_5 (by decide) ?_
  refine V_bipush 117 d_Mod_ruleLine_7 (by decide) ?_
  refine N_callVI [.int 6, .int 99, .int 111, .int 117] [] cv_Mod_118 sk_116 rfl d_Mod_ruleLine_9 rfl (Nat.le_of_ble_eq_true rfl) (by decide) (by decide) (c_Mod_isX h b hI 6 6 tc_6 99 99 tc_99 111 111 tc_111 117 117 tc_117 s sZ sE sK p pZ pE pK f fZ fE fK (TP_fr f0 (fun _ => rfl) hy0) (by (first | decide +kernel | with_reducible assumption | omega)) (by (first | decide +kernel | with_reducible assumption | omega))) (fun z33 h34 z33Z z33E p35 => ?_)
  obtain ⟨eh34, p35⟩ := p35
  subst eh34
  refine V_if_eq 30 z33E d_Mod_ruleLine_12 (by decide) (fun c36 => ?_) (fun c36 => ?_)
  ·
    exact J4  (by have := x_nmr0 b fZ pZ; omega)
  ·
    refine V_aload_n 0 d_Mod_ruleLine_15 rfl rfl ?_
    refine V_bipush 110 d_Mod_ruleLine_16 (by decide) ?_
    refine V_bipush 116 d_Mod_ruleLine_18 (by decide) ?_
    refine V_bipush 121 d_Mod_ruleLine_20 (by decide) ?_
    refine N_callVI [.int 110, .int 116, .int 121] [] cv_Mod_122 sk_116 rfl d_Mod_ruleLine_22 rfl (Nat.le_of_ble_eq_true rfl) (by decide) (by decide) (c_Mod_endsX h b hI 110 110 tc_110 116 116 tc_116 121 121 tc_121 s sZ sE sK f fZ fE fK (TP_fr f0 (fun _ => rfl) hy0) (by (first | decide +kernel | with_reducible assumption | omega))) (fun z37 h38 z37Z z37E p39 => ?_)
    obtain ⟨eh38, p39⟩ := p39
    subst eh38
    refine V_if_eq 30 z37E d_Mod_ruleLine_25 (by decide) (fun c40 => ?_) (fun c40 => ?_)
    ·
      exact J4  (by have := x_nmr0 b fZ pZ; omega)
    ·
      refine V_iconst 0 d_Mod_ruleLine_28 (by decide) ?_
      exact V_iret rfl d_Mod_ruleLine_29 ⟨0, rfl, ⟨rfl, (by rw [tc_0]; have a0 := x_nmr0 b fZ pZ; omega)⟩⟩
abbrev q_Mod_lineNowX (h : Hp) (b : Int → Int) (s : Int32) (sZ : Int) (p : Int32) (pZ : Int) (f : Int32) (fZ : Int) : Option Value → Hp → Prop := pInt (fun r h' => h = h' ∧ (r.toInt = 4 ∧ x_ln b fZ pZ = 1 ∨ r.toInt = 5 ∧ x_ln b fZ pZ = 2 ∨ r.toInt = 6 ∧ x_ln b fZ pZ = 3 ∨ r.toInt = 7 ∧ x_ln b fZ pZ = 4 ∨ r.toInt = 8 ∧ x_ln b fZ pZ = 5 ∨ r.toInt = 9 ∧ x_ln b fZ pZ = 9 ∨ r.toInt = 0 ∧ x_ln b fZ pZ = 0 ∨ r.toInt = 1 ∧ x_ln b fZ pZ = 6 ∨ r.toInt = 2 ∧ x_ln b fZ pZ = 7 ∨ r.toInt = 3 ∧ x_ln b fZ pZ = 8 ∨ r.toInt = -4 ∧ x_ln b fZ pZ = -1))
set_option maxRecDepth 100000 in
theorem c_Mod_lineNowX (h : Hp) (b : Int → Int) (hI : Inv h) (s : Int32) (sZ : Int) (sE : s.toInt = sZ) (sK : h.1 116 15 = s) (p : Int32) (pZ : Int) (pE : p.toInt = pZ) (pK : h.1 116 16 = p) (f : Int32) (fZ : Int) (fE : f.toInt = fZ) (fK : h.1 116 17 = f) (hy0 : TP h 121 sZ b) (hy1 : 0 ≤ fZ ∧ fZ ≤ 160) (hy2 : 0 ≤ pZ ∧ pZ ≤ 160) : Ct y_Mod_lineNow b_Mod_lineNow 1 (some .int) 3 65 [.ref 116] h (q_Mod_lineNowX h b s sZ p pZ f fZ) := by
  refine ct_ow R_Mod [some (.ref 116)] rfl (by decide) rfl (Nat.le_of_ble_eq_true rfl) ?_
  have f0 : fr [] h h := fr_rf
  have g1 : 0 ≤ sZ ∧ sZ ≤ 160 := inv_at hI sE sK.symm rfl
  have g2 : 0 ≤ pZ ∧ pZ ≤ 160 := inv_at hI pE pK.symm rfl
  have g3 : 0 ≤ fZ ∧ fZ ≤ 160 := inv_at hI fE fK.symm rfl
  have J4 : x_nm1 b fZ pZ = 0 → V R_Mod b_Mod_lineNow 1 (some .int) 3 65 (q_Mod_lineNowX h b s sZ p pZ f fZ) h 16 [some (.ref 116)] [] := by
    intro q6
    have J7 : x_nm2 b fZ pZ = 0 → V R_Mod b_Mod_lineNow 1 (some .int) 3 65 (q_Mod_lineNowX h b s sZ p pZ f fZ) h 43 [some (.ref 116)] [] := by
      intro q9
      have J10 : x_nm3 b fZ pZ = 0 → V R_Mod b_Mod_lineNow 1 (some .int) 3 65 (q_Mod_lineNowX h b s sZ p pZ f fZ) h 71 [some (.ref 116)] [] := by
        intro q12
        have J13 : x_nm4 b fZ pZ = 0 → V R_Mod b_Mod_lineNow 1 (some .int) 3 65 (q_Mod_lineNowX h b s sZ p pZ f fZ) h 100 [some (.ref 116)] [] := by
          intro q15
          have J16 : x_nm5 b fZ pZ = 0 → V R_Mod b_Mod_lineNow 1 (some .int) 3 65 (q_Mod_lineNowX h b s sZ p pZ f fZ) h 131 [some (.ref 116)] [] := by
            intro q18
            have J19 : x_nm9 b fZ pZ = 0 → V R_Mod b_Mod_lineNow 1 (some .int) 3 65 (q_Mod_lineNowX h b s sZ p pZ f fZ) h 150 [some (.ref 116)] [] := by
              intro q21
              refine V_aload_n 0 d_Mod_lineNow_150 rfl rfl ?_
              refine N_callVI [] [] cv_Mod_126 sk_116 rfl d_Mod_lineNow_151 rfl (Nat.le_of_ble_eq_true rfl) (by decide) (by decide) (c_Mod_ruleLineX h b hI s sZ sE sK p pZ pE pK f fZ fE fK (TP_fr f0 (fun _ => rfl) hy0) (by (first | decide +kernel | with_reducible assumption | omega)) (by (first | decide +kernel | with_reducible assumption | omega))) (fun z22 h23 z22Z z22E p24 => ?_)
              obtain ⟨eh23, p24⟩ := p24
              subst eh23
              exact V_iret rfl d_Mod_lineNow_154 ⟨z22, rfl, ⟨rfl, (Or.inr (Or.inr (Or.inr (Or.inr (Or.inr (Or.inr (x_lnR (b := b) (f := fZ) (e := pZ) (r := z22.toInt) (by assumption) (by assumption) (by assumption) (by assumption) (by assumption) (by assumption) (by assumption))))))))⟩⟩
            refine V_aload_n 0 d_Mod_lineNow_131 rfl rfl ?_
            refine V_iconst 3 d_Mod_lineNow_132 (by decide) ?_
            refine V_bipush 111 d_Mod_lineNow_133 (by decide) ?_
            refine V_bipush 119 d_Mod_lineNow_135 (by decide) ?_
            refine V_bipush 101 d_Mod_lineNow_137 (by decide) ?_
            refine N_callVI [.int 3, .int 111, .int 119, .int 101] [] cv_Mod_118 sk_116 rfl d_Mod_lineNow_139 rfl (Nat.le_of_ble_eq_true rfl) (by decide) (by decide) (c_Mod_isX h b hI 3 3 tc_3 111 111 tc_111 119 119 tc_119 101 101 tc_101 s sZ sE sK p pZ pE pK f fZ fE fK (TP_fr f0 (fun _ => rfl) hy0) (by (first | decide +kernel | with_reducible assumption | omega)) (by (first | decide +kernel | with_reducible assumption | omega))) (fun z25 h26 z25Z z25E p27 => ?_)
            obtain ⟨eh26, p27⟩ := p27
            subst eh26
            refine V_if_eq 150 z25E d_Mod_lineNow_142 (by decide) (fun c28 => ?_) (fun c28 => ?_)
            ·
              exact J19  (by have := x_nmr9 b fZ pZ; omega)
            ·
              refine V_bipush 9 d_Mod_lineNow_145 (by decide) ?_
              refine V_goto 154 d_Mod_lineNow_147 (by decide) ?_
              exact V_iret rfl d_Mod_lineNow_154 ⟨9, rfl, ⟨rfl, (Or.inr (Or.inr (Or.inr (Or.inr (Or.inr (Or.inl ⟨tc_9, x_ln_of9 (by have := x_nmr9 b fZ pZ; omega)⟩))))))⟩⟩
          refine V_aload_n 0 d_Mod_lineNow_100 rfl rfl ?_
          refine V_iconst 5 d_Mod_lineNow_101 (by decide) ?_
          refine V_bipush 112 d_Mod_lineNow_102 (by decide) ?_
          refine V_bipush 117 d_Mod_lineNow_104 (by decide) ?_
          refine V_bipush 114 d_Mod_lineNow_106 (by decide) ?_
          refine N_callVI [.int 5, .int 112, .int 117, .int 114] [] cv_Mod_118 sk_116 rfl d_Mod_lineNow_108 rfl (Nat.le_of_ble_eq_true rfl) (by decide) (by decide) (c_Mod_isX h b hI 5 5 tc_5 112 112 tc_112 117 117 tc_117 114 114 tc_114 s sZ sE sK p pZ pE pK f fZ fE fK (TP_fr f0 (fun _ => rfl) hy0) (by (first | decide +kernel | with_reducible assumption | omega)) (by (first | decide +kernel | with_reducible assumption | omega))) (fun z29 h30 z29Z z29E p31 => ?_)
          obtain ⟨eh30, p31⟩ := p31
          subst eh30
          refine V_if_eq 131 z29E d_Mod_lineNow_111 (by decide) (fun c32 => ?_) (fun c32 => ?_)
          ·
            exact J16  (by have := x_nmr5 b fZ pZ; omega)
          ·
            refine V_aload_n 0 d_Mod_lineNow_114 rfl rfl ?_
            refine V_bipush 115 d_Mod_lineNow_115 (by decide) ?_
            refine V_bipush 101 d_Mod_lineNow_117 (by decide) ?_
            refine V_iconst 0 d_Mod_lineNow_119 (by decide) ?_
            refine N_callVI [.int 115, .int 101, .int 0] [] cv_Mod_122 sk_116 rfl d_Mod_lineNow_120 rfl (Nat.le_of_ble_eq_true rfl) (by decide) (by decide) (c_Mod_endsX h b hI 115 115 tc_115 101 101 tc_101 0 0 tc_0 s sZ sE sK f fZ fE fK (TP_fr f0 (fun _ => rfl) hy0) (by (first | decide +kernel | with_reducible assumption | omega))) (fun z33 h34 z33Z z33E p35 => ?_)
            obtain ⟨eh34, p35⟩ := p35
            subst eh34
            refine V_if_eq 131 z33E d_Mod_lineNow_123 (by decide) (fun c36 => ?_) (fun c36 => ?_)
            ·
              exact J16  (by have := x_nmr5 b fZ pZ; omega)
            ·
              refine V_bipush 8 d_Mod_lineNow_126 (by decide) ?_
              refine V_goto 154 d_Mod_lineNow_128 (by decide) ?_
              exact V_iret rfl d_Mod_lineNow_154 ⟨8, rfl, ⟨rfl, (Or.inr (Or.inr (Or.inr (Or.inr (Or.inl ⟨tc_8, x_ln_of5 (by have := x_nmr5 b fZ pZ; omega)⟩)))))⟩⟩
        refine V_aload_n 0 d_Mod_lineNow_71 rfl rfl ?_
        refine V_iconst 5 d_Mod_lineNow_72 (by decide) ?_
        refine V_bipush 99 d_Mod_lineNow_73 (by decide) ?_
        refine V_bipush 108 d_Mod_lineNow_75 (by decide) ?_
        refine V_bipush 97 d_Mod_lineNow_77 (by decide) ?_
        refine N_callVI [.int 5, .int 99, .int 108, .int 97] [] cv_Mod_118 sk_116 rfl d_Mod_lineNow_79 rfl (Nat.le_of_ble_eq_true rfl) (by decide) (by decide) (c_Mod_isX h b hI 5 5 tc_5 99 99 tc_99 108 108 tc_108 97 97 tc_97 s sZ sE sK p pZ pE pK f fZ fE fK (TP_fr f0 (fun _ => rfl) hy0) (by (first | decide +kernel | with_reducible assumption | omega)) (by (first | decide +kernel | with_reducible assumption | omega))) (fun z37 h38 z37Z z37E p39 => ?_)
        obtain ⟨eh38, p39⟩ := p39
        subst eh38
        refine V_if_eq 100 z37E d_Mod_lineNow_82 (by decide) (fun c40 => ?_) (fun c40 => ?_)
        ·
          exact J13  (by have := x_nmr4 b fZ pZ; omega)
        ·
          refine V_aload_n 0 d_Mod_lineNow_85 rfl rfl ?_
          refine V_bipush 105 d_Mod_lineNow_86 (by decide) ?_
          refine V_bipush 109 d_Mod_lineNow_88 (by decide) ?_
          refine V_iconst 0 d_Mod_lineNow_90 (by decide) ?_
          refine N_callVI [.int 105, .int 109, .int 0] [] cv_Mod_122 sk_116 rfl d_Mod_lineNow_91 rfl (Nat.le_of_ble_eq_true rfl) (by decide) (by decide) (c_Mod_endsX h b hI 105 105 tc_105 109 109 tc_109 0 0 tc_0 s sZ sE sK f fZ fE fK (TP_fr f0 (fun _ => rfl) hy0) (by (first | decide +kernel | with_reducible assumption | omega))) (fun z41 h42 z41Z z41E p43 => ?_)
          obtain ⟨eh42, p43⟩ := p43
          subst eh42
          refine V_if_eq 100 z41E d_Mod_lineNow_94 (by decide) (fun c44 => ?_) (fun c44 => ?_)
          ·
            exact J13  (by have := x_nmr4 b fZ pZ; omega)
          ·
            refine V_bipush 7 d_Mod_lineNow_97 (by decide) ?_
            exact V_iret rfl d_Mod_lineNow_99 ⟨7, rfl, ⟨rfl, (Or.inr (Or.inr (Or.inr (Or.inl ⟨tc_7, x_ln_of4 (by have := x_nmr4 b fZ pZ; omega)⟩))))⟩⟩
      refine V_aload_n 0 d_Mod_lineNow_43 rfl rfl ?_
      refine V_iconst 4 d_Mod_lineNow_44 (by decide) ?_
      refine V_bipush 111 d_Mod_lineNow_45 (by decide) ?_
      refine V_bipush 100 d_Mod_lineNow_47 (by decide) ?_
      refine V_bipush 100 d_Mod_lineNow_49 (by decide) ?_
      refine N_callVI [.int 4, .int 111, .int 100, .int 100] [] cv_Mod_118 sk_116 rfl d_Mod_lineNow_51 rfl (Nat.le_of_ble_eq_true rfl) (by decide) (by decide) (c_Mod_isX h b hI 4 4 tc_4 111 111 tc_111 100 100 tc_100 100 100 tc_100 s sZ sE sK p pZ pE pK f fZ fE fK (TP_fr f0 (fun _ => rfl) hy0) (by (first | decide +kernel | with_reducible assumption | omega)) (by (first | decide +kernel | with_reducible assumption | omega))) (fun z45 h46 z45Z z45E p47 => ?_)
      obtain ⟨eh46, p47⟩ := p47
      subst eh46
      refine V_if_eq 71 z45E d_Mod_lineNow_54 (by decide) (fun c48 => ?_) (fun c48 => ?_)
      ·
        exact J10  (by have := x_nmr3 b fZ pZ; omega)
      ·
        refine V_aload_n 0 d_Mod_lineNow_57 rfl rfl ?_
        refine V_bipush 115 d_Mod_lineNow_58 (by decide) ?_
        refine V_iconst 0 d_Mod_lineNow_60 (by decide) ?_
        refine V_iconst 0 d_Mod_lineNow_61 (by decide) ?_
        refine N_callVI [.int 115, .int 0, .int 0] [] cv_Mod_122 sk_116 rfl d_Mod_lineNow_62 rfl (Nat.le_of_ble_eq_true rfl) (by decide) (by decide) (c_Mod_endsX h b hI 115 115 tc_115 0 0 tc_0 0 0 tc_0 s sZ sE sK f fZ fE fK (TP_fr f0 (fun _ => rfl) hy0) (by (first | decide +kernel | with_reducible assumption | omega))) (fun z49 h50 z49Z z49E p51 => ?_)
        obtain ⟨eh50, p51⟩ := p51
        subst eh50
        refine V_if_eq 71 z49E d_Mod_lineNow_65 (by decide) (fun c52 => ?_) (fun c52 => ?_)
        ·
          exact J10  (by have := x_nmr3 b fZ pZ; omega)
        ·
          refine V_bipush 6 d_Mod_lineNow_68 (by decide) ?_
          exact V_iret rfl d_Mod_lineNow_70 ⟨6, rfl, ⟨rfl, (Or.inr (Or.inr (Or.inl ⟨tc_6, x_ln_of3 (by have := x_nmr3 b fZ pZ; omega)⟩)))⟩⟩
    refine V_aload_n 0 d_Mod_lineNow_16 rfl rfl ?_
    refine V_iconst 4 d_Mod_lineNow_17 (by decide) ?_
    refine V_bipush 105 d_Mod_lineNow_18 (by decide) ?_
    refine V_bipush 114 d_Mod_lineNow_20 (by decide) ?_
    refine V_bipush 111 d_Mod_lineNow_22 (by decide) ?_
    refine N_callVI [.int 4, .int 105, .int 114, .int 111] [] cv_Mod_118 sk_116 rfl d_Mod_lineNow_24 rfl (Nat.le_of_ble_eq_true rfl) (by decide) (by decide) (c_Mod_isX h b hI 4 4 tc_4 105 105 tc_105 114 114 tc_114 111 111 tc_111 s sZ sE sK p pZ pE pK f fZ fE fK (TP_fr f0 (fun _ => rfl) hy0) (by (first | decide +kernel | with_reducible assumption | omega)) (by (first | decide +kernel | with_reducible assumption | omega))) (fun z53 h54 z53Z z53E p55 => ?_)
    obtain ⟨eh54, p55⟩ := p55
    subst eh54
    refine V_if_eq 43 z53E d_Mod_lineNow_27 (by decide) (fun c56 => ?_) (fun c56 => ?_)
    ·
      exact J7  (by have := x_nmr2 b fZ pZ; omega)
    ·
      refine V_aload_n 0 d_Mod_lineNow_30 rfl rfl ?_
      refine V_bipush 110 d_Mod_lineNow_31 (by decide) ?_
      refine V_iconst 0 d_Mod_lineNow_33 (by decide) ?_
      refine V_iconst 0 d_Mod_lineNow_34 (by decide) ?_
      refine N_callVI [.int 110, .int 0, .int 0] [] cv_Mod_122 sk_116 rfl d_Mod_lineNow_35 rfl (Nat.le_of_ble_eq_true rfl) (by decide) (by decide) (c_Mod_endsX h b hI 110 110 tc_110 0 0 tc_0 0 0 tc_0 s sZ sE sK f fZ fE fK (TP_fr f0 (fun _ => rfl) hy0) (by (first | decide +kernel | with_reducible assumption | omega))) (fun z57 h58 z57Z z57E p59 => ?_)
      obtain ⟨eh58, p59⟩ := p59
      subst eh58
      refine V_if_eq 43 z57E d_Mod_lineNow_38 (by decide) (fun c60 => ?_) (fun c60 => ?_)
      ·
        exact J7  (by have := x_nmr2 b fZ pZ; omega)
      ·
        refine V_iconst 5 d_Mod_lineNow_41 (by decide) ?_
        exact V_iret rfl d_Mod_lineNow_42 ⟨5, rfl, ⟨rfl, (Or.inr (Or.inl ⟨tc_5, x_ln_of2 (by have := x_nmr2 b fZ pZ; omega)⟩))⟩⟩
  refine V_aload_n 0 d_Mod_lineNow_0 rfl rfl ?_
  refine V_iconst 3 d_Mod_lineNow_1 (by decide) ?_
  refine V_bipush 119 d_Mod_lineNow_2 (by decide) ?_
  refine V_bipush 101 d_Mod_lineNow_4 (by decide) ?_
  refine V_bipush 116 d_Mod_lineNow_6 (by decide) ?_
  refine N_callVI [.int 3, .int 119, .int 101, .int 116] [] cv_Mod_118 sk_116 rfl d_Mod_lineNow_8 rfl (Nat.le_of_ble_eq_true rfl) (by decide) (by decide) (c_Mod_isX h b hI 3 3 tc_3 119 119 tc_119 101 101 tc_101 116 116 tc_116 s sZ sE sK p pZ pE pK f fZ fE fK (TP_fr f0 (fun _ => rfl) hy0) (by (first | decide +kernel | with_reducible assumption | omega)) (by (first | decide +kernel | with_reducible assumption | omega))) (fun z61 h62 z61Z z61E p63 => ?_)
  obtain ⟨eh62, p63⟩ := p63
  subst eh62
  refine V_if_eq 16 z61E d_Mod_lineNow_11 (by decide) (fun c64 => ?_) (fun c64 => ?_)
  ·
    exact J4  (by have := x_nmr1 b fZ pZ; omega)
  ·
    refine V_iconst 4 d_Mod_lineNow_14 (by decide) ?_
    exact V_iret rfl d_Mod_lineNow_15 ⟨4, rfl, ⟨rfl, (Or.inl ⟨tc_4, x_ln_of1 (by have := x_nmr1 b fZ pZ; omega)⟩)⟩⟩
abbrev q_Mod_natureNowX (h : Hp) (b : Int → Int) (s : Int32) (sZ : Int) (p : Int32) (pZ : Int) (f : Int32) (fZ : Int) : Option Value → Hp → Prop := pInt (fun r h' => h = h' ∧ (r.toInt = 0 ∧ x_nt b fZ pZ = 0 ∨ r.toInt = 1 ∧ x_nt b fZ pZ = 1 ∨ r.toInt = 2 ∧ x_nt b fZ pZ = 2 ∨ r.toInt = 3 ∧ x_nt b fZ pZ = 3 ∨ r.toInt = 4 ∧ x_nt b fZ pZ = 4 ∨ r.toInt = -4 ∧ x_nt b fZ pZ = -1))
set_option maxRecDepth 100000 in
theorem c_Mod_natureNowX (h : Hp) (b : Int → Int) (hI : Inv h) (s : Int32) (sZ : Int) (sE : s.toInt = sZ) (sK : h.1 116 15 = s) (p : Int32) (pZ : Int) (pE : p.toInt = pZ) (pK : h.1 116 16 = p) (f : Int32) (fZ : Int) (fE : f.toInt = fZ) (fK : h.1 116 17 = f) (hy0 : TP h 121 sZ b) (hy1 : 0 ≤ fZ ∧ fZ ≤ 160) (hy2 : 0 ≤ pZ ∧ pZ ≤ 160) : Ct y_Mod_natureNow b_Mod_natureNow 1 (some .int) 2 45 [.ref 116] h (q_Mod_natureNowX h b s sZ p pZ f fZ) := by
  refine ct_ow R_Mod [some (.ref 116)] rfl (by decide) rfl (Nat.le_of_ble_eq_true rfl) ?_
  have f0 : fr [] h h := fr_rf
  have g1 : 0 ≤ sZ ∧ sZ ≤ 160 := inv_at hI sE sK.symm rfl
  have g2 : 0 ≤ pZ ∧ pZ ≤ 160 := inv_at hI pE pK.symm rfl
  have g3 : 0 ≤ fZ ∧ fZ ≤ 160 := inv_at hI fE fK.symm rfl
  have J4 : x_nm10 b fZ pZ = 0 → V R_Mod b_Mod_natureNow 1 (some .int) 2 45 (q_Mod_natureNowX h b s sZ p pZ f fZ) h 28 [some (.ref 116)] [] := by
    intro q6
    have J7 : x_nm2 b fZ pZ = 0 → V R_Mod b_Mod_natureNow 1 (some .int) 2 45 (q_Mod_natureNowX h b s sZ p pZ f fZ) h 55 [some (.ref 116)] [] := by
      intro q9
      have J10 : x_nm11 b fZ pZ = 0 → V R_Mod b_Mod_natureNow 1 (some .int) 2 45 (q_Mod_natureNowX h b s sZ p pZ f fZ) h 83 [some (.ref 116)] [] := by
        intro q12
        have J13 : x_nm12 b fZ pZ = 0 → V R_Mod b_Mod_natureNow 1 (some .int) 2 45 (q_Mod_natureNowX h b s sZ p pZ f fZ) h 115 [some (.ref 116)] [] := by
          intro q15
          refine V_aload_n 0 d_Mod_natureNow_115 rfl rfl ?_
          refine V_iconst 4 d_Mod_natureNow_116 (by decide) ?_
          refine V_bipush 98 d_Mod_natureNow_117 (by decide) ?_
          refine V_bipush 111 d_Mod_natureNow_119 (by decide) ?_
          refine V_bipush 116 d_Mod_natureNow_121 (by decide) ?_
          refine N_callVI [.int 4, .int 98, .int 111, .int 116] [] cv_Mod_118 sk_116 rfl d_Mod_natureNow_123 rfl (Nat.le_of_ble_eq_true rfl) (by decide) (by decide) (c_Mod_isX h b hI 4 4 tc_4 98 98 tc_98 111 111 tc_111 116 116 tc_116 s sZ sE sK p pZ pE pK f fZ fE fK (TP_fr f0 (fun _ => rfl) hy0) (by (first | decide +kernel | with_reducible assumption | omega)) (by (first | decide +kernel | with_reducible assumption | omega))) (fun z16 h17 z16Z z16E p18 => ?_)
          obtain ⟨eh17, p18⟩ := p18
          subst eh17
          refine V_if_eq 144 z16E d_Mod_natureNow_126 (by decide) (fun c19 => ?_) (fun c19 => ?_)
          ·
            refine V_bipush (-4) d_Mod_natureNow_144 (by decide) ?_
            exact V_iret rfl d_Mod_natureNow_146 ⟨(-4), rfl, ⟨rfl, (Or.inr (Or.inr (Or.inr (Or.inr (Or.inr (⟨tc_m4, x_nt_no (by assumption) (by assumption) (by assumption) (by assumption) (by have := x_nmr13 b fZ pZ; omega)⟩))))))⟩⟩
          ·
            refine V_aload_n 0 d_Mod_natureNow_129 rfl rfl ?_
            refine V_bipush 104 d_Mod_natureNow_130 (by decide) ?_
            refine V_iconst 0 d_Mod_natureNow_132 (by decide) ?_
            refine V_iconst 0 d_Mod_natureNow_133 (by decide) ?_
            refine N_callVI [.int 104, .int 0, .int 0] [] cv_Mod_122 sk_116 rfl d_Mod_natureNow_134 rfl (Nat.le_of_ble_eq_true rfl) (by decide) (by decide) (c_Mod_endsX h b hI 104 104 tc_104 0 0 tc_0 0 0 tc_0 s sZ sE sK f fZ fE fK (TP_fr f0 (fun _ => rfl) hy0) (by (first | decide +kernel | with_reducible assumption | omega))) (fun z20 h21 z20Z z20E p22 => ?_)
            obtain ⟨eh21, p22⟩ := p22
            subst eh21
            refine V_if_eq 144 z20E d_Mod_natureNow_137 (by decide) (fun c23 => ?_) (fun c23 => ?_)
            ·
              refine V_bipush (-4) d_Mod_natureNow_144 (by decide) ?_
              exact V_iret rfl d_Mod_natureNow_146 ⟨(-4), rfl, ⟨rfl, (Or.inr (Or.inr (Or.inr (Or.inr (Or.inr (⟨tc_m4, x_nt_no (by assumption) (by assumption) (by assumption) (by assumption) (by have := x_nmr13 b fZ pZ; omega)⟩))))))⟩⟩
            ·
              refine V_iconst 4 d_Mod_natureNow_140 (by decide) ?_
              refine V_goto 146 d_Mod_natureNow_141 (by decide) ?_
              exact V_iret rfl d_Mod_natureNow_146 ⟨4, rfl, ⟨rfl, (Or.inr (Or.inr (Or.inr (Or.inr (Or.inl ⟨tc_4, x_nt_of4 (by have := x_nmr13 b fZ pZ; omega)⟩)))))⟩⟩
        refine V_aload_n 0 d_Mod_natureNow_83 rfl rfl ?_
        refine V_bipush 6 d_Mod_natureNow_84 (by decide) ?_
        refine V_bipush 119 d_Mod_natureNow_86 (by decide) ?_
        refine V_bipush 105 d_Mod_natureNow_88 (by decide) ?_
        refine V_bipush 115 d_Mod_natureNow_90 (by decide) ?_
        refine N_callVI [.int 6, .int 119, .int 105, .int 115] [] cv_Mod_118 sk_116 rfl d_Mod_natureNow_92 rfl (Nat.le_of_ble_eq_true rfl) (by decide) (by decide) (c_Mod_isX h b hI 6 6 tc_6 119 119 tc_119 105 105 tc_105 115 115 tc_115 s sZ sE sK p pZ pE pK f fZ fE fK (TP_fr f0 (fun _ => rfl) hy0) (by (first | decide +kernel | with_reducible assumption | omega)) (by (first | decide +kernel | with_reducible assumption | omega))) (fun z24 h25 z24Z z24E p26 => ?_)
        obtain ⟨eh25, p26⟩ := p26
        subst eh25
        refine V_if_eq 115 z24E d_Mod_natureNow_95 (by decide) (fun c27 => ?_) (fun c27 => ?_)
        ·
          exact J13  (by have := x_nmr12 b fZ pZ; omega)
        ·
          refine V_aload_n 0 d_Mod_natureNow_98 rfl rfl ?_
          refine V_bipush 104 d_Mod_natureNow_99 (by decide) ?_
          refine V_bipush 101 d_Mod_natureNow_101 (by decide) ?_
          refine V_bipush 115 d_Mod_natureNow_103 (by decide) ?_
          refine N_callVI [.int 104, .int 101, .int 115] [] cv_Mod_122 sk_116 rfl d_Mod_natureNow_105 rfl (Nat.le_of_ble_eq_true rfl) (by decide) (by decide) (c_Mod_endsX h b hI 104 104 tc_104 101 101 tc_101 115 115 tc_115 s sZ sE sK f fZ fE fK (TP_fr f0 (fun _ => rfl) hy0) (by (first | decide +kernel | with_reducible assumption | omega))) (fun z28 h29 z28Z z28E p30 => ?_)
          obtain ⟨eh29, p30⟩ := p30
          subst eh29
          refine V_if_eq 115 z28E d_Mod_natureNow_108 (by decide) (fun c31 => ?_) (fun c31 => ?_)
          ·
            exact J13  (by have := x_nmr12 b fZ pZ; omega)
          ·
            refine V_iconst 3 d_Mod_natureNow_111 (by decide) ?_
            refine V_goto 146 d_Mod_natureNow_112 (by decide) ?_
            exact V_iret rfl d_Mod_natureNow_146 ⟨3, rfl, ⟨rfl, (Or.inr (Or.inr (Or.inr (Or.inl ⟨tc_3, x_nt_of3 (by have := x_nmr12 b fZ pZ; omega)⟩))))⟩⟩
      refine V_aload_n 0 d_Mod_natureNow_55 rfl rfl ?_
      refine V_iconst 5 d_Mod_natureNow_56 (by decide) ?_
      refine V_bipush 115 d_Mod_natureNow_57 (by decide) ?_
      refine V_bipush 116 d_Mod_natureNow_59 (by decide) ?_
      refine V_bipush 101 d_Mod_natureNow_61 (by decide) ?_
      refine N_callVI [.int 5, .int 115, .int 116, .int 101] [] cv_Mod_118 sk_116 rfl d_Mod_natureNow_63 rfl (Nat.le_of_ble_eq_true rfl) (by decide) (by decide) (c_Mod_isX h b hI 5 5 tc_5 115 115 tc_115 116 116 tc_116 101 101 tc_101 s sZ sE sK p pZ pE pK f fZ fE fK (TP_fr f0 (fun _ => rfl) hy0) (by (first | decide +kernel | with_reducible assumption | omega)) (by (first | decide +kernel | with_reducible assumption | omega))) (fun z32 h33 z32Z z32E p34 => ?_)
      obtain ⟨eh33, p34⟩ := p34
      subst eh33
      refine V_if_eq 83 z32E d_Mod_natureNow_66 (by decide) (fun c35 => ?_) (fun c35 => ?_)
      ·
        exact J10  (by have := x_nmr11 b fZ pZ; omega)
      ·
        refine V_aload_n 0 d_Mod_natureNow_69 rfl rfl ?_
        refine V_bipush 112 d_Mod_natureNow_70 (by decide) ?_
        refine V_bipush 115 d_Mod_natureNow_72 (by decide) ?_
        refine V_iconst 0 d_Mod_natureNow_74 (by decide) ?_
        refine N_callVI [.int 112, .int 115, .int 0] [] cv_Mod_122 sk_116 rfl d_Mod_natureNow_75 rfl (Nat.le_of_ble_eq_true rfl) (by decide) (by decide) (c_Mod_endsX h b hI 112 112 tc_112 115 115 tc_115 0 0 tc_0 s sZ sE sK f fZ fE fK (TP_fr f0 (fun _ => rfl) hy0) (by (first | decide +kernel | with_reducible assumption | omega))) (fun z36 h37 z36Z z36E p38 => ?_)
        obtain ⟨eh37, p38⟩ := p38
        subst eh37
        refine V_if_eq 83 z36E d_Mod_natureNow_78 (by decide) (fun c39 => ?_) (fun c39 => ?_)
        ·
          exact J10  (by have := x_nmr11 b fZ pZ; omega)
        ·
          refine V_iconst 2 d_Mod_natureNow_81 (by decide) ?_
          exact V_iret rfl d_Mod_natureNow_82 ⟨2, rfl, ⟨rfl, (Or.inr (Or.inr (Or.inl ⟨tc_2, x_nt_of2 (by have := x_nmr11 b fZ pZ; omega)⟩)))⟩⟩
    refine V_aload_n 0 d_Mod_natureNow_28 rfl rfl ?_
    refine V_iconst 4 d_Mod_natureNow_29 (by decide) ?_
    refine V_bipush 105 d_Mod_natureNow_30 (by decide) ?_
    refine V_bipush 114 d_Mod_natureNow_32 (by decide) ?_
    refine V_bipush 111 d_Mod_natureNow_34 (by decide) ?_
    refine N_callVI [.int 4, .int 105, .int 114, .int 111] [] cv_Mod_118 sk_116 rfl d_Mod_natureNow_36 rfl (Nat.le_of_ble_eq_true rfl) (by decide) (by decide) (c_Mod_isX h b hI 4 4 tc_4 105 105 tc_105 114 114 tc_114 111 111 tc_111 s sZ sE sK p pZ pE pK f fZ fE fK (TP_fr f0 (fun _ => rfl) hy0) (by (first | decide +kernel | with_reducible assumption | omega)) (by (first | decide +kernel | with_reducible assumption | omega))) (fun z40 h41 z40Z z40E p42 => ?_)
    obtain ⟨eh41, p42⟩ := p42
    subst eh41
    refine V_if_eq 55 z40E d_Mod_natureNow_39 (by decide) (fun c43 => ?_) (fun c43 => ?_)
    ·
      exact J7  (by have := x_nmr2 b fZ pZ; omega)
    ·
      refine V_aload_n 0 d_Mod_natureNow_42 rfl rfl ?_
      refine V_bipush 110 d_Mod_natureNow_43 (by decide) ?_
      refine V_iconst 0 d_Mod_natureNow_45 (by decide) ?_
      refine V_iconst 0 d_Mod_natureNow_46 (by decide) ?_
      refine N_callVI [.int 110, .int 0, .int 0] [] cv_Mod_122 sk_116 rfl d_Mod_natureNow_47 rfl (Nat.le_of_ble_eq_true rfl) (by decide) (by decide) (c_Mod_endsX h b hI 110 110 tc_110 0 0 tc_0 0 0 tc_0 s sZ sE sK f fZ fE fK (TP_fr f0 (fun _ => rfl) hy0) (by (first | decide +kernel | with_reducible assumption | omega))) (fun z44 h45 z44Z z44E p46 => ?_)
      obtain ⟨eh45, p46⟩ := p46
      subst eh45
      refine V_if_eq 55 z44E d_Mod_natureNow_50 (by decide) (fun c47 => ?_) (fun c47 => ?_)
      ·
        exact J7  (by have := x_nmr2 b fZ pZ; omega)
      ·
        refine V_iconst 1 d_Mod_natureNow_53 (by decide) ?_
        exact V_iret rfl d_Mod_natureNow_54 ⟨1, rfl, ⟨rfl, (Or.inr (Or.inl ⟨tc_1, x_nt_of1 (by have := x_nmr2 b fZ pZ; omega)⟩))⟩⟩
  refine V_aload_n 0 d_Mod_natureNow_0 rfl rfl ?_
  refine V_iconst 5 d_Mod_natureNow_1 (by decide) ?_
  refine V_bipush 119 d_Mod_natureNow_2 (by decide) ?_
  refine V_bipush 97 d_Mod_natureNow_4 (by decide) ?_
  refine V_bipush 116 d_Mod_natureNow_6 (by decide) ?_
  refine N_callVI [.int 5, .int 119, .int 97, .int 116] [] cv_Mod_118 sk_116 rfl d_Mod_natureNow_8 rfl (Nat.le_of_ble_eq_true rfl) (by decide) (by decide) (c_Mod_isX h b hI 5 5 tc_5 119 119 tc_119 97 97 tc_97 116 116 tc_116 s sZ sE sK p pZ pE pK f fZ fE fK (TP_fr f0 (fun _ => rfl) hy0) (by (first | decide +kernel | with_reducible assumption | omega)) (by (first | decide +kernel | with_reducible assumption | omega))) (fun z48 h49 z48Z z48E p50 => ?_)
  obtain ⟨eh49, p50⟩ := p50
  subst eh49
  refine V_if_eq 28 z48E d_Mod_natureNow_11 (by decide) (fun c51 => ?_) (fun c51 => ?_)
  ·
    exact J4  (by have := x_nmr10 b fZ pZ; omega)
  ·
    refine V_aload_n 0 d_Mod_natureNow_14 rfl rfl ?_
    refine V_bipush 101 d_Mod_natureNow_15 (by decide) ?_
    refine V_bipush 114 d_Mod_natureNow_17 (by decide) ?_
    refine V_iconst 0 d_Mod_natureNow_19 (by decide) ?_
    refine N_callVI [.int 101, .int 114, .int 0] [] cv_Mod_122 sk_116 rfl d_Mod_natureNow_20 rfl (Nat.le_of_ble_eq_true rfl) (by decide) (by decide) (c_Mod_endsX h b hI 101 101 tc_101 114 114 tc_114 0 0 tc_0 s sZ sE sK f fZ fE fK (TP_fr f0 (fun _ => rfl) hy0) (by (first | decide +kernel | with_reducible assumption | omega))) (fun z52 h53 z52Z z52E p54 => ?_)
    obtain ⟨eh53, p54⟩ := p54
    subst eh53
    refine V_if_eq 28 z52E d_Mod_natureNow_23 (by decide) (fun c55 => ?_) (fun c55 => ?_)
    ·
      exact J4  (by have := x_nmr10 b fZ pZ; omega)
    ·
      refine V_iconst 0 d_Mod_natureNow_26 (by decide) ?_
      exact V_iret rfl d_Mod_natureNow_27 ⟨0, rfl, ⟨rfl, (Or.inl ⟨tc_0, x_nt_of0 (by have := x_nmr10 b fZ pZ; omega)⟩)⟩⟩
def S_Mod_nextX : List (Nat × Option Nat) := [(116, some 16), (116, some 17), (116, some 18), (116, some 19), (116, some 20), (116, some 21)]
abbrev q_Mod_nextX (h : Hp) (b : Int → Int) (s : Int32) (sZ : Int) (p : Int32) (pZ : Int) (g : Int32) (gZ : Int) (k : Int32) (kZ : Int) (v : Int32) (vZ : Int) (w : Int32) (wZ : Int) (a : Int32) (aZ : Int) : Option Value → Hp → Prop := pVd (fun h' => Inv h' ∧ fr S_Mod_nextX h h' ∧ ∃ (q : Int32) (qZ : Int), q.toInt = qZ ∧ h'.1 116 16 = q ∧ ∃ (f : Int32) (fZ : Int), f.toInt = fZ ∧ h'.1 116 17 = f ∧ ∃ (m : Int32) (mZ : Int), m.toInt = mZ ∧ h'.1 116 18 = m ∧ ∃ (x : Int32) (xZ : Int), x.toInt = xZ ∧ h'.1 116 19 = x ∧ ∃ (u : Int32) (uZ : Int), u.toInt = uZ ∧ h'.1 116 20 = u ∧ ∃ (y : Int32) (yZ : Int), y.toInt = yZ ∧ h'.1 116 21 = y ∧ (wZ ≠ 0 ∧ qZ = pZ ∧ fZ = gZ ∧ mZ = kZ ∧ xZ = vZ ∧ uZ = wZ ∧ yZ = aZ ∨ wZ = 0 ∧ fZ = x_fr b pZ ∧ pZ ≤ fZ ∧ fZ ≤ qZ ∧ qZ ≤ sZ ∧ (uZ = 1 ∧ x_kd b pZ = 4 ∧ yZ = fZ ∨ uZ = 0 ∧ yZ = aZ ∧ mZ = x_kd b pZ ∧ mZ ≠ 4 ∧ 0 ≤ mZ ∧ mZ ≤ 3 ∧ qZ = x_en b pZ ∧ (mZ ≠ 2 ∨ xZ = x_vl b pZ ∧ 0 ≤ xZ ∧ xZ ≤ 99) ∧ (mZ = 0 ∨ fZ < qZ))))
set_option maxRecDepth 100000 in
theorem c_Mod_nextX (h : Hp) (b : Int → Int) (hI : Inv h) (s : Int32) (sZ : Int) (sE : s.toInt = sZ) (sK : h.1 116 15 = s) (p : Int32) (pZ : Int) (pE : p.toInt = pZ) (pK : h.1 116 16 = p) (g : Int32) (gZ : Int) (gE : g.toInt = gZ) (gK : h.1 116 17 = g) (k : Int32) (kZ : Int) (kE : k.toInt = kZ) (kK : h.1 116 18 = k) (v : Int32) (vZ : Int) (vE : v.toInt = vZ) (vK : h.1 116 19 = v) (w : Int32) (wZ : Int) (wE : w.toInt = wZ) (wK : h.1 116 20 = w) (a : Int32) (aZ : Int) (aE : a.toInt = aZ) (aK : h.1 116 21 = a) (hy0 : TP h 121 sZ b) (hy1 : 0 ≤ pZ ∧ pZ ≤ sZ ∧ 0 ≤ wZ) : Ct y_Mod_next b_Mod_next 2 none 1 25 [.ref 116] h (q_Mod_nextX h b s sZ p pZ g gZ k kZ v vZ w wZ a aZ) := by
  refine ct_ow R_Mod [some (.ref 116), none] rfl (by decide) rfl (Nat.le_of_ble_eq_true rfl) ?_
  have f0 : fr S_Mod_nextX h h := fr_rf
  have g1 : 0 ≤ sZ ∧ sZ ≤ 160 := inv_at hI sE sK.symm rfl
  have g2 : 0 ≤ pZ ∧ pZ ≤ 160 := inv_at hI pE pK.symm rfl
  have g3 : 0 ≤ gZ ∧ gZ ≤ 160 := inv_at hI gE gK.symm rfl
  refine V_aload_n 0 d_Mod_next_0 rfl rfl ?_
  refine N_getK fa_Mod_102 sk_116 rfl d_Mod_next_1 wK ?_
  refine V_if_le 8 wE d_Mod_next_4 (by decide) (fun c4 => ?_) (fun c4 => ?_)
  ·
    have L5 : ∀ (nn : Nat) (h7 : Hp) (v14 : Int32) (v14Z : Int), Inv h7 → fr S_Mod_nextX h h7 → h7.1 116 15 = s → h7.1 116 17 = g → h7.1 116 18 = k → h7.1 116 19 = v → h7.1 116 20 = w → h7.1 116 21 = a → v14.toInt = v14Z → h7.1 116 16 = v14 → pZ ≤ v14Z ∧ v14Z ≤ sZ → rn blB b v14Z = rn blB b pZ → 160 - v14Z < (nn : Int) → V R_Mod b_Mod_next 2 none 1 25 (q_Mod_nextX h b s sZ p pZ g gZ k kZ v vZ w wZ a aZ) h7 8 [some (.ref 116), none] [] := by
      intro nn
      induction nn with
      | zero => intro h7 v14 v14Z Ih7 Fh7 K8 K9 K10 K11 K12 K13 v14E K15 q16 q17 hm18; exact absurd hm18 (by (first | decide +kernel | with_reducible assumption | omega))
      | succ nn ihL5 =>
        intro h7 v14 v14Z Ih7 Fh7 K8 K9 K10 K11 K12 K13 v14E K15 q16 q17 hm18
        have g19 : 0 ≤ v14Z ∧ v14Z ≤ 160 := inv_at Ih7 v14E K15.symm rfl
        have g20 := TP_b hy0 v14Z (by (first | decide +kernel | with_reducible assumption | omega))
        refine V_aload_n 0 d_Mod_next_8 rfl rfl ?_
        refine V_aload_n 0 d_Mod_next_9 rfl rfl ?_
        refine N_getK fa_Mod_111 sk_116 rfl d_Mod_next_10 K15 ?_
        refine N_callVI [.int v14] [] cv_Mod_114 sk_116 rfl d_Mod_next_13 rfl (Nat.le_of_ble_eq_true rfl) (by decide) (by decide) (c_Mod_lookX h7 b Ih7 v14 v14Z v14E s sZ sE K8 (TP_fr Fh7 (fun _ => rfl) hy0) (by (first | decide +kernel | with_reducible assumption | omega))) (fun z21 h22 z21Z z21E p23 => ?_)
        obtain ⟨eh22, p23⟩ := p23
        subst eh22
        refine V_bipush 32 d_Mod_next_16 (by decide) ?_
        refine V_icmp_ne 34 z21E tc_32 d_Mod_next_18 (by decide) (fun c24 => ?_) (fun c24 => ?_)
        ·
          have g25 := rn_stop (P := blB) (b := b) (p := v14Z) (blB_n (by (first | decide +kernel | with_reducible assumption | omega)))
          refine V_aload_n 0 d_Mod_next_34 rfl rfl ?_
          refine V_aload_n 0 d_Mod_next_35 rfl rfl ?_
          refine N_getK fa_Mod_111 sk_116 rfl d_Mod_next_36 K15 ?_
          refine N_putI fp_Mod_105 sk_116 rfl d_Mod_next_39 (fun h26 eh26 => ?_)
          have hI27 : Inv h26 := inv_put (lo := 0) (hi := 160) Ih7 eh26 rfl v14E (by (first | decide +kernel | with_reducible assumption | omega))
          have f28 : fr S_Mod_nextX h h26 := fr_put Fh7 eh26 rfl
          refine V_aload_n 0 d_Mod_next_42 rfl rfl ?_
          refine V_aload_n 0 d_Mod_next_43 rfl rfl ?_
          refine N_getK fa_Mod_111 sk_116 rfl d_Mod_next_44 (kn_nei eh26 K15 (by decide)) ?_
          refine N_callVI [.int v14] [] cv_Mod_114 sk_116 rfl d_Mod_next_47 rfl (Nat.le_of_ble_eq_true rfl) (by decide) (by decide) (c_Mod_lookX h26 b hI27 v14 v14Z v14E s sZ sE (kn_nei eh26 K8 (by decide)) (TP_fr f28 (fun _ => rfl) hy0) (by (first | decide +kernel | with_reducible assumption | omega))) (fun z29 h30 z29Z z29E p31 => ?_)
          obtain ⟨eh30, p31⟩ := p31
          subst eh30
          refine V_istore_n 1 [some (.ref 116), some (.int z29)] d_Mod_next_50 rfl (by decide) rfl rfl ?_
          refine V_iload_n 1 d_Mod_next_51 rfl rfl ?_
          refine V_if_ge 63 z29E d_Mod_next_52 (by decide) (fun c32 => ?_) (fun c32 => ?_)
          ·
            refine V_iload_n 1 d_Mod_next_63 rfl rfl ?_
            refine V_i2l d_Mod_next_64 (fun z33 z33e z33E => ?_)
            have z33F : z33.toInt = z29Z := z33E.trans z29E
            refine V_ldc2 d_Mod_next_65 wl_Mod_133 ?_
            refine V_ldc2 d_Mod_next_68 wl_Mod_135 ?_
            refine N_callSI [.long z33, .long 97, .long 122] [] cs_Mod_95 d_Mod_next_71 rfl (Nat.le_of_ble_eq_true rfl) (by decide) (by decide) (c_Mod_in h26 z33 z29Z z33F 97 97 tl_97 122 122 tl_122) (fun z34 h35 z34Z z34E p36 => ?_)
            obtain ⟨eh35, p36⟩ := p36
            subst eh35
            refine V_if_eq 116 z34E d_Mod_next_74 (by decide) (fun c37 => ?_) (fun c37 => ?_)
            ·
              refine V_iload_n 1 d_Mod_next_116 rfl rfl ?_
              refine V_i2l d_Mod_next_117 (fun z38 z38e z38E => ?_)
              have z38F : z38.toInt = z29Z := z38E.trans z29E
              refine V_ldc2 d_Mod_next_118 wl_Mod_137 ?_
              refine V_ldc2 d_Mod_next_121 wl_Mod_139 ?_
              refine N_callSI [.long z38, .long 48, .long 57] [] cs_Mod_95 d_Mod_next_124 rfl (Nat.le_of_ble_eq_true rfl) (by decide) (by decide) (c_Mod_in h26 z38 z29Z z38F 48 48 tl_48 57 57 tl_57) (fun z39 h40 z39Z z39E p41 => ?_)
              obtain ⟨eh40, p41⟩ := p41
              subst eh40
              refine V_if_eq 243 z39E d_Mod_next_127 (by decide) (fun c42 => ?_) (fun c42 => ?_)
              ·
                refine V_aload_n 0 d_Mod_next_243 rfl rfl ?_
                refine V_iconst 3 d_Mod_next_244 (by decide) ?_
                refine N_putI fp_Mod_130 sk_116 rfl d_Mod_next_245 (fun h43 eh43 => ?_)
                have hI44 : Inv h43 := inv_full hI27 eh43 rfl
                have f45 : fr S_Mod_nextX h h43 := fr_put f28 eh43 rfl
                refine V_aload_n 0 d_Mod_next_248 rfl rfl ?_
                refine V_iload_n 1 d_Mod_next_249 rfl rfl ?_
                refine V_bipush 59 d_Mod_next_250 (by decide) ?_
                refine V_icmp_ne 259 z29E tc_59 d_Mod_next_252 (by decide) (fun c46 => ?_) (fun c46 => ?_)
                ·
                  refine V_iconst 0 d_Mod_next_259 (by decide) ?_
                  refine V_iconst 1 d_Mod_next_260 (by decide) ?_
                  refine N_callVV [.int 0, .int 1] [] cv_Mod_144 sk_116 rfl d_Mod_next_261 rfl (Nat.le_of_ble_eq_true rfl) (by decide) (by decide) (c_Mod_needsX h43 hI44 0 0 tc_0 1 1 tc_1 v14 v14Z v14E (kn_nei eh43 (kn_put eh26) (by decide)) w wZ wE (kn_nei eh43 (kn_nei eh26 K12 (by decide)) (by decide)) a aZ aE (kn_nei eh43 (kn_nei eh26 K13 (by decide)) (by decide))) (fun h48 p49 => ?_)
                  obtain ⟨hI50, fh48, o52, o52Z, o52E, o52K, o53, o53Z, o53E, o53K, p49⟩ := p49
                  have f51 : fr S_Mod_nextX h h48 := fr_call f45 fh48 rfl
                  replace p49 := (p49.resolve_left (by (first | decide +kernel | with_reducible assumption | omega))).2.2
                  refine V_aload_n 0 d_Mod_next_264 rfl rfl ?_
                  refine V_dup d_Mod_next_265 rfl ?_
                  refine N_getK fa_Mod_111 sk_116 rfl d_Mod_next_266 (kn_call fh48 (kn_nei eh43 (kn_nei eh26 K15 (by decide)) (by decide)) rfl) ?_
                  refine V_iconst 1 d_Mod_next_269 (by decide) ?_
                  refine V_iadd v14E tc_1 (by (first | decide +kernel | with_reducible assumption | omega)) d_Mod_next_270 (fun z54 z54e z54E => ?_)
                  refine N_putI fp_Mod_111 sk_116 rfl d_Mod_next_271 (fun h55 eh55 => ?_)
                  have hI56 : Inv h55 := inv_put (lo := 0) (hi := 160) hI50 eh55 rfl z54E (by (first | decide +kernel | with_reducible assumption | omega))
                  have f57 : fr S_Mod_nextX h h55 := fr_put f51 eh55 rfl
                  exact V_vret rfl d_Mod_next_274 ⟨rfl, ⟨hI56, f57, z54, (v14Z + 1), z54E, (kn_put eh55), v14, v14Z, v14E, (kn_nei eh55 (kn_call fh48 (kn_nei eh43 (kn_put eh26) (by decide)) rfl) (by decide)), 3, 3, tc_3, (kn_nei eh55 (kn_call fh48 (kn_put eh43) rfl) (by decide)), v, vZ, vE, (kn_nei eh55 (kn_call fh48 (kn_nei eh43 (kn_nei eh26 K11 (by decide)) (by decide)) rfl) (by decide)), o52, o52Z, o52E, (kn_nei eh55 o52K (by decide)), o53, o53Z, o53E, (kn_nei eh55 o53K (by decide)), (by have hf : v14Z = x_fr b pZ := (by unfold x_fr; omega); have q := tok_4 (p := pZ) hf (by (first | decide +kernel | with_reducible assumption | omega)); exact Or.inr ⟨by (first | decide +kernel | with_reducible assumption | omega), hf, by (first | decide +kernel | with_reducible assumption | omega), by (first | decide +kernel | with_reducible assumption | omega), by (first | decide +kernel | with_reducible assumption | omega), Or.inl ⟨by (first | decide +kernel | with_reducible assumption | omega), q, by (first | decide +kernel | with_reducible assumption | omega)⟩⟩)⟩⟩
                ·
                  refine V_iconst 1 d_Mod_next_255 (by decide) ?_
                  refine V_goto 260 d_Mod_next_256 (by decide) ?_
                  refine V_iconst 1 d_Mod_next_260 (by decide) ?_
                  refine N_callVV [.int 1, .int 1] [] cv_Mod_144 sk_116 rfl d_Mod_next_261 rfl (Nat.le_of_ble_eq_true rfl) (by decide) (by decide) (c_Mod_needsX h43 hI44 1 1 tc_1 1 1 tc_1 v14 v14Z v14E (kn_nei eh43 (kn_put eh26) (by decide)) w wZ wE (kn_nei eh43 (kn_nei eh26 K12 (by decide)) (by decide)) a aZ aE (kn_nei eh43 (kn_nei eh26 K13 (by decide)) (by decide))) (fun h59 p60 => ?_)
                  obtain ⟨hI61, fh59, o63, o63Z, o63E, o63K, o64, o64Z, o64E, o64K, p60⟩ := p60
                  have f62 : fr S_Mod_nextX h h59 := fr_call f45 fh59 rfl
                  replace p60 := (p60.resolve_right (by (first | decide +kernel | with_reducible assumption | omega))).2
                  refine V_aload_n 0 d_Mod_next_264 rfl rfl ?_
                  refine V_dup d_Mod_next_265 rfl ?_
                  refine N_getK fa_Mod_111 sk_116 rfl d_Mod_next_266 (kn_call fh59 (kn_nei eh43 (kn_nei eh26 K15 (by decide)) (by decide)) rfl) ?_
                  refine V_iconst 1 d_Mod_next_269 (by decide) ?_
                  refine V_iadd v14E tc_1 (by (first | decide +kernel | with_reducible assumption | omega)) d_Mod_next_270 (fun z65 z65e z65E => ?_)
                  refine N_putI fp_Mod_111 sk_116 rfl d_Mod_next_271 (fun h66 eh66 => ?_)
                  have hI67 : Inv h66 := inv_put (lo := 0) (hi := 160) hI61 eh66 rfl z65E (by (first | decide +kernel | with_reducible assumption | omega))
                  have f68 : fr S_Mod_nextX h h66 := fr_put f62 eh66 rfl
                  exact V_vret rfl d_Mod_next_274 ⟨rfl, ⟨hI67, f68, z65, (v14Z + 1), z65E, (kn_put eh66), v14, v14Z, v14E, (kn_nei eh66 (kn_call fh59 (kn_nei eh43 (kn_put eh26) (by decide)) rfl) (by decide)), 3, 3, tc_3, (kn_nei eh66 (kn_call fh59 (kn_put eh43) rfl) (by decide)), v, vZ, vE, (kn_nei eh66 (kn_call fh59 (kn_nei eh43 (kn_nei eh26 K11 (by decide)) (by decide)) rfl) (by decide)), o63, o63Z, o63E, (kn_nei eh66 o63K (by decide)), o64, o64Z, o64E, (kn_nei eh66 o64K (by decide)), (by have hf : v14Z = x_fr b pZ := (by unfold x_fr; omega); have q := tok_3 (p := pZ) hf (by (first | decide +kernel | with_reducible assumption | omega)); exact Or.inr ⟨by (first | decide +kernel | with_reducible assumption | omega), hf, by (first | decide +kernel | with_reducible assumption | omega), by (first | decide +kernel | with_reducible assumption | omega), by (first | decide +kernel | with_reducible assumption | omega), Or.inr ⟨by (first | decide +kernel | with_reducible assumption | omega), by (first | decide +kernel | with_reducible assumption | omega), q.1.symm, by decide, by decide, by decide, by (first | decide +kernel | with_reducible assumption | omega), Or.inl (by decide), Or.inr (by (first | decide +kernel | with_reducible assumption | omega))⟩⟩)⟩⟩
              ·
                refine V_aload_n 0 d_Mod_next_130 rfl rfl ?_
                refine V_iconst 2 d_Mod_next_131 (by decide) ?_
                refine N_putI fp_Mod_130 sk_116 rfl d_Mod_next_132 (fun h69 eh69 => ?_)
                have hI70 : Inv h69 := inv_full hI27 eh69 rfl
                have f71 : fr S_Mod_nextX h h69 := fr_put f28 eh69 rfl
                refine V_aload_n 0 d_Mod_next_135 rfl rfl ?_
                refine V_iconst 0 d_Mod_next_136 (by decide) ?_
                refine N_putI fp_Mod_141 sk_116 rfl d_Mod_next_137 (fun h72 eh72 => ?_)
                have hI73 : Inv h72 := inv_full hI70 eh72 rfl
                have f74 : fr S_Mod_nextX h h72 := fr_put f71 eh72 rfl
                have L75 : ∀ (nn : Nat) (h77 : Hp) (v83 : Int32) (v83Z : Int) (v85 : Int32) (v85Z : Int), Inv h77 → fr S_Mod_nextX h h77 → h77.1 116 15 = s → h77.1 116 17 = v14 → h77.1 116 18 = 2 → h77.1 116 20 = w → h77.1 116 21 = a → v83.toInt = v83Z → h77.1 116 16 = v83 → v85.toInt = v85Z → h77.1 116 19 = v85 → v14Z ≤ v83Z ∧ v83Z ≤ sZ → rn fiB b v83Z = rn fiB b v14Z → VQp b v14Z v83Z v85Z → DFp b v14Z v83Z → 160 - v83Z < (nn : Int) → V R_Mod b_Mod_next 2 none 1 25 (q_Mod_nextX h b s sZ p pZ g gZ k kZ v vZ w wZ a aZ) h77 140 [some (.ref 116), some (.int z29)] [] := by
                  intro nn
                  induction nn with
                  | zero => intro h77 v83 v83Z v85 v85Z Ih77 Fh77 K78 K79 K80 K81 K82 v83E K84 v85E K86 q87 q88 q89 q90 hm91; exact absurd hm91 (by (first | decide +kernel | with_reducible assumption | omega))
                  | succ nn ihL75 =>
                    intro h77 v83 v83Z v85 v85Z Ih77 Fh77 K78 K79 K80 K81 K82 v83E K84 v85E K86 q87 q88 q89 q90 hm91
                    have g92 : 0 ≤ v83Z ∧ v83Z ≤ 160 := inv_at Ih77 v83E K84.symm rfl
                    have g93 := TP_b hy0 v83Z (by (first | decide +kernel | with_reducible assumption | omega))
                    refine V_aload_n 0 d_Mod_next_140 rfl rfl ?_
                    refine V_aload_n 0 d_Mod_next_141 rfl rfl ?_
                    refine N_getK fa_Mod_111 sk_116 rfl d_Mod_next_142 K84 ?_
                    refine N_callVI [.int v83] [] cv_Mod_114 sk_116 rfl d_Mod_next_145 rfl (Nat.le_of_ble_eq_true rfl) (by decide) (by decide) (c_Mod_lookX h77 b Ih77 v83 v83Z v83E s sZ sE K78 (TP_fr Fh77 (fun _ => rfl) hy0) (by (first | decide +kernel | with_reducible assumption | omega))) (fun z94 h95 z94Z z94E p96 => ?_)
                    obtain ⟨eh95, p96⟩ := p96
                    subst eh95
                    refine V_i2l d_Mod_next_148 (fun z97 z97e z97E => ?_)
                    have z97F : z97.toInt = z94Z := z97E.trans z94E
                    refine V_ldc2 d_Mod_next_149 wl_Mod_137 ?_
                    refine V_ldc2 d_Mod_next_152 wl_Mod_139 ?_
                    refine N_callSI [.long z97, .long 48, .long 57] [] cs_Mod_95 d_Mod_next_155 rfl (Nat.le_of_ble_eq_true rfl) (by decide) (by decide) (c_Mod_in h77 z97 z94Z z97F 48 48 tl_48 57 57 tl_57) (fun z98 h99 z98Z z98E p100 => ?_)
                    obtain ⟨eh99, p100⟩ := p100
                    subst eh99
                    refine V_if_eq 217 z98E d_Mod_next_158 (by decide) (fun c101 => ?_) (fun c101 => ?_)
                    ·
                      refine V_aload_n 0 d_Mod_next_217 rfl rfl ?_
                      refine V_aload_n 0 d_Mod_next_218 rfl rfl ?_
                      refine N_getK fa_Mod_111 sk_116 rfl d_Mod_next_219 K84 ?_
                      refine V_aload_n 0 d_Mod_next_222 rfl rfl ?_
                      refine N_getK fa_Mod_105 sk_116 rfl d_Mod_next_223 K79 ?_
                      refine V_isub v83E v14E (by (first | decide +kernel | with_reducible assumption | omega)) d_Mod_next_226 (fun z102 z102e z102E => ?_)
                      refine V_iconst 2 d_Mod_next_227 (by decide) ?_
                      refine V_icmp_gt 235 z102E tc_2 d_Mod_next_228 (by decide) (fun c103 => ?_) (fun c103 => ?_)
                      ·
                        refine V_iconst 0 d_Mod_next_235 (by decide) ?_
                        refine V_iconst 1 d_Mod_next_236 (by decide) ?_
                        refine N_callVV [.int 0, .int 1] [] cv_Mod_144 sk_116 rfl d_Mod_next_237 rfl (Nat.le_of_ble_eq_true rfl) (by decide) (by decide) (c_Mod_needsX h77 Ih77 0 0 tc_0 1 1 tc_1 v14 v14Z v14E K79 w wZ wE K81 a aZ aE K82) (fun h105 p106 => ?_)
                        obtain ⟨hI107, fh105, o109, o109Z, o109E, o109K, o110, o110Z, o110E, o110K, p106⟩ := p106
                        have f108 : fr S_Mod_nextX h h105 := fr_call Fh77 fh105 rfl
                        replace p106 := (p106.resolve_left (by (first | decide +kernel | with_reducible assumption | omega))).2.2
                        refine V_goto 274 d_Mod_next_240 (by decide) ?_
                        exact V_vret rfl d_Mod_next_274 ⟨rfl, ⟨hI107, f108, v83, v83Z, v83E, (kn_call fh105 K84 rfl), v14, v14Z, v14E, (kn_call fh105 K79 rfl), 2, 2, tc_2, (kn_call fh105 K80 rfl), v85, v85Z, v85E, (kn_call fh105 K86 rfl), o109, o109Z, o109E, o109K, o110, o110Z, o110E, o110K, (by have hf : v14Z = x_fr b pZ := (by unfold x_fr; omega); have q0 := rn_stop (P := fiB) (b := b) (p := v83Z) (fiB_n (by (first | decide +kernel | with_reducible assumption | omega))); have qf : 48 ≤ b v14Z ∧ b v14Z ≤ 57 := (by (first | decide +kernel | with_reducible assumption | omega)); have q := tok_2 (p := pZ) (u := v83Z) hf qf (by (first | decide +kernel | with_reducible assumption | omega)); have q1 := rn_step (P := fiB) (b := b) (p := v14Z) (fiB_y qf) (by (first | decide +kernel | with_reducible assumption | omega)); have q2 := rn_ge (P := fiB) (b := b) (v14Z + 1); have qk : x_kd b pZ = 4 := (by (first | decide +kernel | with_reducible assumption | omega)); exact Or.inr ⟨by (first | decide +kernel | with_reducible assumption | omega), hf, by (first | decide +kernel | with_reducible assumption | omega), by (first | decide +kernel | with_reducible assumption | omega), by (first | decide +kernel | with_reducible assumption | omega), Or.inl ⟨by (first | decide +kernel | with_reducible assumption | omega), qk, by (first | decide +kernel | with_reducible assumption | omega)⟩⟩)⟩⟩
                      ·
                        refine V_iconst 1 d_Mod_next_231 (by decide) ?_
                        refine V_goto 236 d_Mod_next_232 (by decide) ?_
                        refine V_iconst 1 d_Mod_next_236 (by decide) ?_
                        refine N_callVV [.int 1, .int 1] [] cv_Mod_144 sk_116 rfl d_Mod_next_237 rfl (Nat.le_of_ble_eq_true rfl) (by decide) (by decide) (c_Mod_needsX h77 Ih77 1 1 tc_1 1 1 tc_1 v14 v14Z v14E K79 w wZ wE K81 a aZ aE K82) (fun h112 p113 => ?_)
                        obtain ⟨hI114, fh112, o116, o116Z, o116E, o116K, o117, o117Z, o117E, o117K, p113⟩ := p113
                        have f115 : fr S_Mod_nextX h h112 := fr_call Fh77 fh112 rfl
                        replace p113 := (p113.resolve_right (by (first | decide +kernel | with_reducible assumption | omega))).2
                        refine V_goto 274 d_Mod_next_240 (by decide) ?_
                        exact V_vret rfl d_Mod_next_274 ⟨rfl, ⟨hI114, f115, v83, v83Z, v83E, (kn_call fh112 K84 rfl), v14, v14Z, v14E, (kn_call fh112 K79 rfl), 2, 2, tc_2, (kn_call fh112 K80 rfl), v85, v85Z, v85E, (kn_call fh112 K86 rfl), o116, o116Z, o116E, o116K, o117, o117Z, o117E, o117K, (by have hf : v14Z = x_fr b pZ := (by unfold x_fr; omega); have q0 := rn_stop (P := fiB) (b := b) (p := v83Z) (fiB_n (by (first | decide +kernel | with_reducible assumption | omega))); have qf : 48 ≤ b v14Z ∧ b v14Z ≤ 57 := (by (first | decide +kernel | with_reducible assumption | omega)); have q := tok_2 (p := pZ) (u := v83Z) hf qf (by (first | decide +kernel | with_reducible assumption | omega)); have q1 := rn_step (P := fiB) (b := b) (p := v14Z) (fiB_y qf) (by (first | decide +kernel | with_reducible assumption | omega)); have q2 := rn_ge (P := fiB) (b := b) (v14Z + 1); have ql : v83Z - v14Z = 1 ∨ v83Z - v14Z = 2 := (by (first | decide +kernel | with_reducible assumption | omega)); have qk : x_kd b pZ = 2 := (by (first | decide +kernel | with_reducible assumption | omega)); have q3 := tok_v (p := pZ) (u := v83Z) (v := v85Z) hf q.1.symm (VQp_e (by assumption) ql); have qr := VQp_r (b := b) (f := v14Z) (u := v83Z) (v := v85Z) (by assumption) (by assumption) ql; exact Or.inr ⟨by (first | decide +kernel | with_reducible assumption | omega), hf, by (first | decide +kernel | with_reducible assumption | omega), by (first | decide +kernel | with_reducible assumption | omega), by (first | decide +kernel | with_reducible assumption | omega), Or.inr ⟨by (first | decide +kernel | with_reducible assumption | omega), by (first | decide +kernel | with_reducible assumption | omega), qk.symm, by decide, by decide, by decide, q.1.symm, Or.inr ⟨q3, qr.1, qr.2⟩, Or.inr (by (first | decide +kernel | with_reducible assumption | omega))⟩⟩)⟩⟩
                    ·
                      have hf9 : 48 ≤ b v83Z ∧ b v83Z ≤ 57 := by (first | decide +kernel | with_reducible assumption | omega)
                      have g118 := rn_step (P := fiB) (b := b) (p := v83Z) (fiB_y hf9) (by (first | decide +kernel | with_reducible assumption | omega))
                      refine V_aload_n 0 d_Mod_next_161 rfl rfl ?_
                      refine V_aload_n 0 d_Mod_next_162 rfl rfl ?_
                      refine N_getK fa_Mod_111 sk_116 rfl d_Mod_next_163 K84 ?_
                      refine V_aload_n 0 d_Mod_next_166 rfl rfl ?_
                      refine N_getK fa_Mod_105 sk_116 rfl d_Mod_next_167 K79 ?_
                      refine V_isub v83E v14E (by (first | decide +kernel | with_reducible assumption | omega)) d_Mod_next_170 (fun z119 z119e z119E => ?_)
                      refine V_iconst 2 d_Mod_next_171 (by decide) ?_
                      refine V_icmp_ge 197 z119E tc_2 d_Mod_next_172 (by decide) (fun c120 => ?_) (fun c120 => ?_)
                      ·
                        refine V_aload_n 0 d_Mod_next_197 rfl rfl ?_
                        refine N_getK fa_Mod_141 sk_116 rfl d_Mod_next_198 K86 ?_
                        refine N_putI fp_Mod_141 sk_116 rfl d_Mod_next_201 (fun h121 eh121 => ?_)
                        have hI122 : Inv h121 := inv_full Ih77 eh121 rfl
                        have f123 : fr S_Mod_nextX h h121 := fr_put Fh77 eh121 rfl
                        refine V_aload_n 0 d_Mod_next_204 rfl rfl ?_
                        refine V_dup d_Mod_next_205 rfl ?_
                        refine N_getK fa_Mod_111 sk_116 rfl d_Mod_next_206 (kn_nei eh121 K84 (by decide)) ?_
                        refine V_iconst 1 d_Mod_next_209 (by decide) ?_
                        refine V_iadd v83E tc_1 (by (first | decide +kernel | with_reducible assumption | omega)) d_Mod_next_210 (fun z124 z124e z124E => ?_)
                        refine N_putI fp_Mod_111 sk_116 rfl d_Mod_next_211 (fun h125 eh125 => ?_)
                        have hI126 : Inv h125 := inv_put (lo := 0) (hi := 160) hI122 eh125 rfl z124E (by (first | decide +kernel | with_reducible assumption | omega))
                        have f127 : fr S_Mod_nextX h h125 := fr_put f123 eh125 rfl
                        refine V_goto 140 d_Mod_next_214 (by decide) ?_
                        exact ihL75 h125 z124 ((v83Z + 1)) v85 v85Z hI126 f127 (kn_nei eh125 (kn_nei eh121 K78 (by decide)) (by decide)) (kn_nei eh125 (kn_nei eh121 K79 (by decide)) (by decide)) (kn_nei eh125 (kn_nei eh121 K80 (by decide)) (by decide)) (kn_nei eh125 (kn_nei eh121 K81 (by decide)) (by decide)) (kn_nei eh125 (kn_nei eh121 K82 (by decide)) (by decide)) z124E (kn_put eh125) v85E (kn_nei eh125 (kn_put eh121) (by decide)) (by (first | decide +kernel | with_reducible assumption | omega)) (by (first | decide +kernel | with_reducible assumption | omega)) (VQp_k (by assumption) (by (first | decide +kernel | with_reducible assumption | omega))) (DFp_s (by assumption) (by (first | decide +kernel | with_reducible assumption | omega)) hf9) (by (first | decide +kernel | with_reducible assumption | omega))
                      ·
                        have hv9 := VQp_b (b := b) (f := v14Z) (u := v83Z) (v := v85Z) (by assumption) (by assumption) (by (first | decide +kernel | with_reducible assumption | omega))
                        refine V_bipush 10 d_Mod_next_175 (by decide) ?_
                        refine V_aload_n 0 d_Mod_next_177 rfl rfl ?_
                        refine N_getK fa_Mod_141 sk_116 rfl d_Mod_next_178 K86 ?_
                        refine V_imul tc_10 v85E (by (first | decide +kernel | with_reducible assumption | omega)) d_Mod_next_181 (fun z128 z128e z128E => ?_)
                        refine V_aload_n 0 d_Mod_next_182 rfl rfl ?_
                        refine V_aload_n 0 d_Mod_next_183 rfl rfl ?_
                        refine N_getK fa_Mod_111 sk_116 rfl d_Mod_next_184 K84 ?_
                        refine N_callVI [.int v83] [.int z128, .ref 116] cv_Mod_114 sk_116 rfl d_Mod_next_187 rfl (Nat.le_of_ble_eq_true rfl) (by decide) (by decide) (c_Mod_lookX h77 b Ih77 v83 v83Z v83E s sZ sE K78 (TP_fr Fh77 (fun _ => rfl) hy0) (by (first | decide +kernel | with_reducible assumption | omega))) (fun z129 h130 z129Z z129E p131 => ?_)
                        obtain ⟨eh130, p131⟩ := p131
                        subst eh130
                        have hx9 : z129Z = b v83Z := by (first | decide +kernel | with_reducible assumption | omega)
                        refine V_iadd z128E z129E (by (first | decide +kernel | with_reducible assumption | omega)) d_Mod_next_190 (fun z132 z132e z132E => ?_)
                        refine V_bipush 48 d_Mod_next_191 (by decide) ?_
                        refine V_isub z132E tc_48 (by (first | decide +kernel | with_reducible assumption | omega)) d_Mod_next_193 (fun z133 z133e z133E => ?_)
                        refine V_goto 201 d_Mod_next_194 (by decide) ?_
                        refine N_putI fp_Mod_141 sk_116 rfl d_Mod_next_201 (fun h134 eh134 => ?_)
                        have hI135 : Inv h134 := inv_full Ih77 eh134 rfl
                        have f136 : fr S_Mod_nextX h h134 := fr_put Fh77 eh134 rfl
                        refine V_aload_n 0 d_Mod_next_204 rfl rfl ?_
                        refine V_dup d_Mod_next_205 rfl ?_
                        refine N_getK fa_Mod_111 sk_116 rfl d_Mod_next_206 (kn_nei eh134 K84 (by decide)) ?_
                        refine V_iconst 1 d_Mod_next_209 (by decide) ?_
                        refine V_iadd v83E tc_1 (by (first | decide +kernel | with_reducible assumption | omega)) d_Mod_next_210 (fun z137 z137e z137E => ?_)
                        refine N_putI fp_Mod_111 sk_116 rfl d_Mod_next_211 (fun h138 eh138 => ?_)
                        have hI139 : Inv h138 := inv_put (lo := 0) (hi := 160) hI135 eh138 rfl z137E (by (first | decide +kernel | with_reducible assumption | omega))
                        have f140 : fr S_Mod_nextX h h138 := fr_put f136 eh138 rfl
                        refine V_goto 140 d_Mod_next_214 (by decide) ?_
                        exact ihL75 h138 z137 ((v83Z + 1)) z133 ((((10 * v85Z) + z129Z) - 48)) hI139 f140 (kn_nei eh138 (kn_nei eh134 K78 (by decide)) (by decide)) (kn_nei eh138 (kn_nei eh134 K79 (by decide)) (by decide)) (kn_nei eh138 (kn_nei eh134 K80 (by decide)) (by decide)) (kn_nei eh138 (kn_nei eh134 K81 (by decide)) (by decide)) (kn_nei eh138 (kn_nei eh134 K82 (by decide)) (by decide)) z137E (kn_put eh138) z133E (kn_nei eh138 (kn_put eh134) (by decide)) (by (first | decide +kernel | with_reducible assumption | omega)) (by (first | decide +kernel | with_reducible assumption | omega)) (VQp_s (by assumption) hx9 (by (first | decide +kernel | with_reducible assumption | omega))) (DFp_s (by assumption) (by (first | decide +kernel | with_reducible assumption | omega)) hf9) (by (first | decide +kernel | with_reducible assumption | omega))
                exact L75 (Int.toNat ((160 - v14Z : Int) + 1)) h72 v14 v14Z 0 0 hI73 f74 (kn_nei eh72 (kn_nei eh69 (kn_nei eh26 K8 (by decide)) (by decide)) (by decide)) (kn_nei eh72 (kn_nei eh69 (kn_put eh26) (by decide)) (by decide)) (kn_nei eh72 (kn_put eh69) (by decide)) (kn_nei eh72 (kn_nei eh69 (kn_nei eh26 K12 (by decide)) (by decide)) (by decide)) (kn_nei eh72 (kn_nei eh69 (kn_nei eh26 K13 (by decide)) (by decide)) (by decide)) v14E (kn_nei eh72 (kn_nei eh69 (kn_nei eh26 K15 (by decide)) (by decide)) (by decide)) tc_0 (kn_put eh72) (by (first | decide +kernel | with_reducible assumption | omega)) (by (first | decide +kernel | with_reducible assumption | omega)) VQp_0 DFp_0 (by (first | decide +kernel | with_reducible assumption | omega))
            ·
              refine V_aload_n 0 d_Mod_next_77 rfl rfl ?_
              refine V_iconst 1 d_Mod_next_78 (by decide) ?_
              refine N_putI fp_Mod_130 sk_116 rfl d_Mod_next_79 (fun h141 eh141 => ?_)
              have hI142 : Inv h141 := inv_full hI27 eh141 rfl
              have f143 : fr S_Mod_nextX h h141 := fr_put f28 eh141 rfl
              have L144 : ∀ (nn : Nat) (h146 : Hp) (v153 : Int32) (v153Z : Int), Inv h146 → fr S_Mod_nextX h h146 → h146.1 116 15 = s → h146.1 116 17 = v14 → h146.1 116 18 = 1 → h146.1 116 20 = w → h146.1 116 21 = a → h146.1 116 19 = v → v153.toInt = v153Z → h146.1 116 16 = v153 → v14Z ≤ v153Z ∧ v153Z ≤ sZ → rn leB b v153Z = rn leB b v14Z → 160 - v153Z < (nn : Int) → V R_Mod b_Mod_next 2 none 1 25 (q_Mod_nextX h b s sZ p pZ g gZ k kZ v vZ w wZ a aZ) h146 82 [some (.ref 116), some (.int z29)] [] := by
                intro nn
                induction nn with
                | zero => intro h146 v153 v153Z Ih146 Fh146 K147 K148 K149 K150 K151 K152 v153E K154 q155 q156 hm157; exact absurd hm157 (by (first | decide +kernel | with_reducible assumption | omega))
                | succ nn ihL144 =>
                  intro h146 v153 v153Z Ih146 Fh146 K147 K148 K149 K150 K151 K152 v153E K154 q155 q156 hm157
                  have g158 : 0 ≤ v153Z ∧ v153Z ≤ 160 := inv_at Ih146 v153E K154.symm rfl
                  have g159 := TP_b hy0 v153Z (by (first | decide +kernel | with_reducible assumption | omega))
                  refine V_aload_n 0 d_Mod_next_82 rfl rfl ?_
                  refine V_aload_n 0 d_Mod_next_83 rfl rfl ?_
                  refine N_getK fa_Mod_111 sk_116 rfl d_Mod_next_84 K154 ?_
                  refine N_callVI [.int v153] [] cv_Mod_114 sk_116 rfl d_Mod_next_87 rfl (Nat.le_of_ble_eq_true rfl) (by decide) (by decide) (c_Mod_lookX h146 b Ih146 v153 v153Z v153E s sZ sE K147 (TP_fr Fh146 (fun _ => rfl) hy0) (by (first | decide +kernel | with_reducible assumption | omega))) (fun z160 h161 z160Z z160E p162 => ?_)
                  obtain ⟨eh161, p162⟩ := p162
                  subst eh161
                  refine V_i2l d_Mod_next_90 (fun z163 z163e z163E => ?_)
                  have z163F : z163.toInt = z160Z := z163E.trans z160E
                  refine V_ldc2 d_Mod_next_91 wl_Mod_133 ?_
                  refine V_ldc2 d_Mod_next_94 wl_Mod_135 ?_
                  refine N_callSI [.long z163, .long 97, .long 122] [] cs_Mod_95 d_Mod_next_97 rfl (Nat.le_of_ble_eq_true rfl) (by decide) (by decide) (c_Mod_in h146 z163 z160Z z163F 97 97 tl_97 122 122 tl_122) (fun z164 h165 z164Z z164E p166 => ?_)
                  obtain ⟨eh165, p166⟩ := p166
                  subst eh165
                  refine V_if_eq 274 z164E d_Mod_next_100 (by decide) (fun c167 => ?_) (fun c167 => ?_)
                  ·
                    exact V_vret rfl d_Mod_next_274 ⟨rfl, ⟨Ih146, Fh146, v153, v153Z, v153E, K154, v14, v14Z, v14E, K148, 1, 1, tc_1, K149, v, vZ, vE, K152, w, wZ, wE, K150, a, aZ, aE, K151, (by have hf : v14Z = x_fr b pZ := (by unfold x_fr; omega); have q0 := rn_stop (P := leB) (b := b) (p := v153Z) (leB_n (by (first | decide +kernel | with_reducible assumption | omega))); have q := tok_1 (p := pZ) (u := v153Z) hf (by (first | decide +kernel | with_reducible assumption | omega)) (by (first | decide +kernel | with_reducible assumption | omega)); have q1 := rn_step (P := leB) (b := b) (p := v14Z) (leB_y (by (first | decide +kernel | with_reducible assumption | omega))) (by (first | decide +kernel | with_reducible assumption | omega)); have q2 := rn_ge (P := leB) (b := b) (v14Z + 1); exact Or.inr ⟨by (first | decide +kernel | with_reducible assumption | omega), hf, by (first | decide +kernel | with_reducible assumption | omega), by (first | decide +kernel | with_reducible assumption | omega), by (first | decide +kernel | with_reducible assumption | omega), Or.inr ⟨by (first | decide +kernel | with_reducible assumption | omega), by (first | decide +kernel | with_reducible assumption | omega), q.1.symm, by decide, by decide, by decide, q.2.symm, Or.inl (by decide), Or.inr (by (first | decide +kernel | with_reducible assumption | omega))⟩⟩)⟩⟩
                  ·
                    have g168 := rn_step (P := leB) (b := b) (p := v153Z) (leB_y (by (first | decide +kernel | with_reducible assumption | omega))) (by (first | decide +kernel | with_reducible assumption | omega))
                    refine V_aload_n 0 d_Mod_next_103 rfl rfl ?_
                    refine V_dup d_Mod_next_104 rfl ?_
                    refine N_getK fa_Mod_111 sk_116 rfl d_Mod_next_105 K154 ?_
                    refine V_iconst 1 d_Mod_next_108 (by decide) ?_
                    refine V_iadd v153E tc_1 (by (first | decide +kernel | with_reducible assumption | omega)) d_Mod_next_109 (fun z169 z169e z169E => ?_)
                    refine N_putI fp_Mod_111 sk_116 rfl d_Mod_next_110 (fun h170 eh170 => ?_)
                    have hI171 : Inv h170 := inv_put (lo := 0) (hi := 160) Ih146 eh170 rfl z169E (by (first | decide +kernel | with_reducible assumption | omega))
                    have f172 : fr S_Mod_nextX h h170 := fr_put Fh146 eh170 rfl
                    refine V_goto 82 d_Mod_next_113 (by decide) ?_
                    exact ihL144 h170 z169 ((v153Z + 1)) hI171 f172 (kn_nei eh170 K147 (by decide)) (kn_nei eh170 K148 (by decide)) (kn_nei eh170 K149 (by decide)) (kn_nei eh170 K150 (by decide)) (kn_nei eh170 K151 (by decide)) (kn_nei eh170 K152 (by decide)) z169E (kn_put eh170) (by (first | decide +kernel | with_reducible assumption | omega)) (by (first | decide +kernel | with_reducible assumption | omega)) (by (first | decide +kernel | with_reducible assumption | omega))
              exact L144 (Int.toNat ((160 - v14Z : Int) + 1)) h141 v14 v14Z hI142 f143 (kn_nei eh141 (kn_nei eh26 K8 (by decide)) (by decide)) (kn_nei eh141 (kn_put eh26) (by decide)) (kn_put eh141) (kn_nei eh141 (kn_nei eh26 K12 (by decide)) (by decide)) (kn_nei eh141 (kn_nei eh26 K13 (by decide)) (by decide)) (kn_nei eh141 (kn_nei eh26 K11 (by decide)) (by decide)) v14E (kn_nei eh141 (kn_nei eh26 K15 (by decide)) (by decide)) (by (first | decide +kernel | with_reducible assumption | omega)) (by (first | decide +kernel | with_reducible assumption | omega)) (by (first | decide +kernel | with_reducible assumption | omega))
          ·
            refine V_aload_n 0 d_Mod_next_55 rfl rfl ?_
            refine V_iconst 0 d_Mod_next_56 (by decide) ?_
            refine N_putI fp_Mod_130 sk_116 rfl d_Mod_next_57 (fun h173 eh173 => ?_)
            have hI174 : Inv h173 := inv_full hI27 eh173 rfl
            have f175 : fr S_Mod_nextX h h173 := fr_put f28 eh173 rfl
            refine V_goto 274 d_Mod_next_60 (by decide) ?_
            exact V_vret rfl d_Mod_next_274 ⟨rfl, ⟨hI174, f175, v14, v14Z, v14E, (kn_nei eh173 (kn_nei eh26 K15 (by decide)) (by decide)), v14, v14Z, v14E, (kn_nei eh173 (kn_put eh26) (by decide)), 0, 0, tc_0, (kn_put eh173), v, vZ, vE, (kn_nei eh173 (kn_nei eh26 K11 (by decide)) (by decide)), w, wZ, wE, (kn_nei eh173 (kn_nei eh26 K12 (by decide)) (by decide)), a, aZ, aE, (kn_nei eh173 (kn_nei eh26 K13 (by decide)) (by decide)), (by have hf : v14Z = x_fr b pZ := (by unfold x_fr; omega); have q := tok_0 (p := pZ) hf (by (first | decide +kernel | with_reducible assumption | omega)); exact Or.inr ⟨by (first | decide +kernel | with_reducible assumption | omega), hf, by (first | decide +kernel | with_reducible assumption | omega), by (first | decide +kernel | with_reducible assumption | omega), by (first | decide +kernel | with_reducible assumption | omega), Or.inr ⟨by (first | decide +kernel | with_reducible assumption | omega), by (first | decide +kernel | with_reducible assumption | omega), q.1.symm, by decide, by decide, by decide, q.2.symm, Or.inl (by decide), Or.inl rfl⟩⟩)⟩⟩
        ·
          have g176 := rn_step (P := blB) (b := b) (p := v14Z) (blB_y (by (first | decide +kernel | with_reducible assumption | omega))) (by (first | decide +kernel | with_reducible assumption | omega))
          refine V_aload_n 0 d_Mod_next_21 rfl rfl ?_
          refine V_dup d_Mod_next_22 rfl ?_
          refine N_getK fa_Mod_111 sk_116 rfl d_Mod_next_23 K15 ?_
          refine V_iconst 1 d_Mod_next_26 (by decide) ?_
          refine V_iadd v14E tc_1 (by (first | decide +kernel | with_reducible assumption | omega)) d_Mod_next_27 (fun z177 z177e z177E => ?_)
          refine N_putI fp_Mod_111 sk_116 rfl d_Mod_next_28 (fun h178 eh178 => ?_)
          have hI179 : Inv h178 := inv_put (lo := 0) (hi := 160) Ih7 eh178 rfl z177E (by (first | decide +kernel | with_reducible assumption | omega))
          have f180 : fr S_Mod_nextX h h178 := fr_put Fh7 eh178 rfl
          refine V_goto 8 d_Mod_next_31 (by decide) ?_
          exact ihL5 h178 z177 ((v14Z + 1)) hI179 f180 (kn_nei eh178 K8 (by decide)) (kn_nei eh178 K9 (by decide)) (kn_nei eh178 K10 (by decide)) (kn_nei eh178 K11 (by decide)) (kn_nei eh178 K12 (by decide)) (kn_nei eh178 K13 (by decide)) z177E (kn_put eh178) (by (first | decide +kernel | with_reducible assumption | omega)) (by (first | decide +kernel | with_reducible assumption | omega)) (by (first | decide +kernel | with_reducible assumption | omega))
    exact L5 (Int.toNat ((160 - pZ : Int) + 1)) h p pZ hI f0 sK gK kK vK wK aK pE pK (by (first | decide +kernel | with_reducible assumption | omega)) (by (first | decide +kernel | with_reducible assumption | omega)) (by (first | decide +kernel | with_reducible assumption | omega))
  ·
    exact V_vret rfl d_Mod_next_7 ⟨rfl, ⟨hI, f0, p, pZ, pE, pK, g, gZ, gE, gK, k, kZ, kE, kK, v, vZ, vE, vK, w, wZ, wE, wK, a, aZ, aE, aK, (by (first | decide +kernel | with_reducible assumption | omega))⟩⟩
end
section
/-- the FAULT of the TOKEN behind p: as a number within bounds, as a stop, as the NAME of a nature; 0: none -/
def x_cN (b : Int → Int) (p lo hi : Int) : Int := if x_kd b p = 4 then 1 else if x_kd b p ≠ 2 then 2 else if x_vl b p < lo ∨ hi < x_vl b p then 3 else 0
def x_cS (b : Int → Int) (p : Int) : Int := if x_kd b p = 4 then 1 else if x_kd b p ≠ 3 then 2 else 0
def x_nn (b : Int → Int) (p : Int) : Int := x_nt b (x_fr b p) (x_en b p)
def x_cK (b : Int → Int) (p : Int) : Int := if x_kd b p = 4 then 1 else if x_kd b p ≠ 1 then 2 else if x_nn b p = -1 then 2 else 0
theorem x_cN_s (b : Int → Int) (p lo hi : Int) : x_kd b p = 4 ∧ x_cN b p lo hi = 1 ∨ x_kd b p ≠ 4 ∧ x_kd b p ≠ 2 ∧ x_cN b p lo hi = 2 ∨ x_kd b p = 2 ∧ (x_vl b p < lo ∨ hi < x_vl b p) ∧ x_cN b p lo hi = 3 ∨ x_kd b p = 2 ∧ lo ≤ x_vl b p ∧ x_vl b p ≤ hi ∧ x_cN b p lo hi = 0 := by
  unfold x_cN
  split
  · left; omega
  · split
    · right; left; omega
    · split <;> omega
theorem x_cS_s (b : Int → Int) (p : Int) : x_kd b p = 4 ∧ x_cS b p = 1 ∨ x_kd b p ≠ 4 ∧ x_kd b p ≠ 3 ∧ x_cS b p = 2 ∨ x_kd b p = 3 ∧ x_cS b p = 0 := by
  unfold x_cS
  split
  · left; omega
  · split <;> omega
theorem x_cK_s (b : Int → Int) (p : Int) : x_kd b p = 4 ∧ x_cK b p = 1 ∨ x_kd b p ≠ 4 ∧ x_kd b p ≠ 1 ∧ x_cK b p = 2 ∨ x_kd b p = 1 ∧ x_nn b p = -1 ∧ x_cK b p = 2 ∨ x_kd b p = 1 ∧ x_nn b p ≠ -1 ∧ x_cK b p = 0 := by
  unfold x_cK
  split
  · left; omega
  · split
    · right; left; omega
    · split <;> omega
/-- a FAULT and its place, or what comes behind -/
def x_sq (c w : Int) (r : Int × Int) : Int × Int := if c = 0 then r else (c, w)
theorem x_sq_s (c w : Int) (r : Int × Int) : c ≠ 0 ∧ (x_sq c w r).1 = c ∧ (x_sq c w r).2 = w ∨ c = 0 ∧ (x_sq c w r).1 = r.1 ∧ (x_sq c w r).2 = r.2 := by
  unfold x_sq
  split
  · next h => exact Or.inr ⟨h, rfl, rfl⟩
  · next h => exact Or.inl ⟨h, rfl, rfl⟩
theorem x_sq_y {c w : Int} {r : Int × Int} (h : c ≠ 0) : x_sq c w r = (c, w) := if_neg h
theorem x_sq_n {c w : Int} {r : Int × Int} (h : c = 0) : x_sq c w r = r := if_pos h
/-- the FAULT of a thing told twice -/
def x_c4 (t : Int) : Int := if t = 0 then 0 else 4
theorem x_c4_s (t : Int) : t = 0 ∧ x_c4 t = 0 ∨ t ≠ 0 ∧ x_c4 t = 4 := by
  unfold x_c4
  split <;> omega
/-- to himself -/
def x_ce (x y : Int) : Int := if x = y then 4 else 0
theorem x_ce_s (x y : Int) : x = y ∧ x_ce x y = 4 ∨ x ≠ y ∧ x_ce x y = 0 := by
  unfold x_ce
  split <;> omega
/-- county: p is the end of its NAME -/
def x_l0 (b : Int → Int) (T : Nat → Int → Int) (p : Int) : Int × Int := x_sq (x_cN b p 2 4) (x_fr b p) (x_sq (x_cN b (x_en b p) 2 4) (x_fr b (x_en b p)) (x_sq (x_cS b (x_en b (x_en b p))) (x_fr b (x_en b (x_en b p))) (0, x_en b (x_en b (x_en b p)))))
/-- wet: p is the end of its NAME -/
def x_l1 (b : Int → Int) (T : Nat → Int → Int) (p : Int) : Int × Int := x_sq (x_cN b p 0 15) (x_fr b p) (x_sq (x_c4 (T 1 (x_vl b p))) (x_fr b p) (x_sq (x_cN b (x_en b p) 1 9) (x_fr b (x_en b p)) (x_sq (x_cS b (x_en b (x_en b p))) (x_fr b (x_en b (x_en b p))) (0, x_en b (x_en b (x_en b p))))))
/-- iron: p is the end of its NAME -/
def x_l2 (b : Int → Int) (T : Nat → Int → Int) (p : Int) : Int × Int := x_sq (x_cN b p 0 15) (x_fr b p) (x_sq (x_c4 (T 2 (x_vl b p))) (x_fr b p) (x_sq (x_cS b (x_en b p)) (x_fr b (x_en b p)) (0, x_en b (x_en b p))))
/-- odds: p is the end of its NAME -/
def x_l3 (b : Int → Int) (T : Nat → Int → Int) (p : Int) : Int × Int := x_sq (x_cN b p 0 15) (x_fr b p) (x_sq (x_c4 (T 3 (x_vl b p))) (x_fr b p) (x_sq (x_cN b (x_en b p) 0 10) (x_fr b (x_en b p)) (x_sq (x_cS b (x_en b (x_en b p))) (x_fr b (x_en b (x_en b p))) (0, x_en b (x_en b (x_en b p))))))
/-- claim: p is the end of its NAME -/
def x_l4 (b : Int → Int) (T : Nat → Int → Int) (p : Int) : Int × Int := x_sq (x_cN b p 0 15) (x_fr b p) (x_sq (x_c4 (T 4 (x_vl b p))) (x_fr b p) (x_sq (x_cN b (x_en b p) 0 3) (x_fr b (x_en b p)) (x_sq (x_cS b (x_en b (x_en b p))) (x_fr b (x_en b (x_en b p))) (0, x_en b (x_en b (x_en b p))))))
/-- purse: p is the end of its NAME -/
def x_l5 (b : Int → Int) (T : Nat → Int → Int) (p : Int) : Int × Int := x_sq (x_cN b p 0 3) (x_fr b p) (x_sq (x_c4 (T 5 (x_vl b p))) (x_fr b p) (x_sq (x_cN b (x_en b p) 0 99) (x_fr b (x_en b p)) (x_sq (x_cS b (x_en b (x_en b p))) (x_fr b (x_en b (x_en b p))) (0, x_en b (x_en b (x_en b p))))))
/-- cost: p is the end of its NAME -/
def x_l6 (b : Int → Int) (T : Nat → Int → Int) (p : Int) : Int × Int := x_sq (x_cN b p 1 9) (x_fr b p) (x_sq (x_cS b (x_en b p)) (x_fr b (x_en b p)) (0, x_en b (x_en b p)))
/-- price: p is the end of its NAME -/
def x_l7 (b : Int → Int) (T : Nat → Int → Int) (p : Int) : Int × Int := x_sq (x_cN b p 1 99) (x_fr b p) (x_sq (x_cS b (x_en b p)) (x_fr b (x_en b p)) (0, x_en b (x_en b p)))
/-- rod: p is the end of its NAME -/
def x_l8 (b : Int → Int) (T : Nat → Int → Int) (p : Int) : Int × Int := x_sq (x_cK b p) (x_fr b p) (x_sq (x_cN b (x_en b p) 1 9) (x_fr b (x_en b p)) (x_sq (x_cS b (x_en b (x_en b p))) (x_fr b (x_en b (x_en b p))) (0, x_en b (x_en b (x_en b p)))))
/-- owe: p is the end of its NAME -/
def x_l9 (b : Int → Int) (T : Nat → Int → Int) (p : Int) : Int × Int := x_sq (x_cN b p 0 3) (x_fr b p) (x_sq (x_cN b (x_en b p) 0 3) (x_fr b (x_en b p)) (x_sq (x_ce (x_vl b (x_en b p)) (x_vl b p)) (x_fr b (x_en b p)) (x_sq (x_cN b (x_en b (x_en b p)) 1 99) (x_fr b (x_en b (x_en b p))) (x_sq (x_cS b (x_en b (x_en b (x_en b p)))) (x_fr b (x_en b (x_en b (x_en b p)))) (0, x_en b (x_en b (x_en b (x_en b p))))))))
def x_li (b : Int → Int) (p : Int) : Int := x_ln b (x_fr b p) (x_en b p)
/-- the FAULT of a line's NAME; n: DEBTS told before -/
def x_cH (b : Int → Int) (T : Nat → Int → Int) (n p : Int) : Int := if x_kd b p = 4 then 1 else if x_kd b p ≠ 1 then 2 else if x_li b p = -1 then 2 else if x_li b p = 0 ∧ T 0 0 ≠ 0 ∨ x_li b p = 6 ∧ T 6 0 ≠ 0 ∨ x_li b p = 7 ∧ T 7 0 ≠ 0 ∨ x_li b p = 8 ∧ T 8 0 ≠ 0 then 4 else if x_li b p = 9 ∧ 8 ≤ n then 5 else 0
/-- a line: its FAULT and the place, or 0 and where it ends -/
def x_line (b : Int → Int) (T : Nat → Int → Int) (n p : Int) : Int × Int := x_sq (x_cH b T n p) (x_fr b p) (if x_li b p = 0 then x_l0 b T (x_en b p) else if x_li b p = 1 then x_l1 b T (x_en b p) else if x_li b p = 2 then x_l2 b T (x_en b p) else if x_li b p = 3 then x_l3 b T (x_en b p) else if x_li b p = 4 then x_l4 b T (x_en b p) else if x_li b p = 5 then x_l5 b T (x_en b p) else if x_li b p = 6 then x_l6 b T (x_en b p) else if x_li b p = 7 then x_l7 b T (x_en b p) else if x_li b p = 8 then x_l8 b T (x_en b p) else x_l9 b T (x_en b p))
def x_up (D : Nat → Int) (k : Int) (v : Int) : Nat → Int := fun i => if (i : Int) = k then v else D i
def x_upT (T : Nat → Int → Int) (l c : Int) : Nat → Int → Int := fun i j => if (i : Int) = l ∧ j = c then 1 else T i j
/-- what is told behind a line -/
def x_T (b : Int → Int) (T : Nat → Int → Int) (p : Int) : Nat → Int → Int := if 1 ≤ x_li b p ∧ x_li b p ≤ 5 then x_upT T (x_li b p) (x_vl b (x_en b p)) else x_upT T (x_li b p) 0
/-- the draft behind a line -/
def x_D (b : Int → Int) (D : Nat → Int) (p : Int) : Nat → Int := if x_li b p = 0 then x_up (x_up D 144 (x_vl b (x_en b p))) 145 (x_vl b (x_en b (x_en b p))) else if x_li b p = 1 then x_up D (x_vl b (x_en b p)) (x_vl b (x_en b (x_en b p))) else if x_li b p = 2 then x_up D (16 + (x_vl b (x_en b p))) 1 else if x_li b p = 3 then x_up D (32 + (x_vl b (x_en b p))) (x_vl b (x_en b (x_en b p))) else if x_li b p = 4 then x_up D (48 + (x_vl b (x_en b p))) (x_vl b (x_en b (x_en b p))) else if x_li b p = 5 then x_up D (80 + (x_vl b (x_en b p))) (x_vl b (x_en b (x_en b p))) else if x_li b p = 6 then x_up D 146 (x_vl b (x_en b p)) else if x_li b p = 7 then x_up D 147 (x_vl b (x_en b p)) else if x_li b p = 8 then x_up (x_up D 84 (x_nn b (x_en b p))) 85 (x_vl b (x_en b (x_en b p))) else x_up (x_up (x_up (x_up D (87 + 3 * D 86) (x_vl b (x_en b p))) (88 + 3 * D 86) (x_vl b (x_en b (x_en b p)))) (89 + 3 * D 86) (x_vl b (x_en b (x_en b (x_en b p))))) 86 (D 86 + 1)
theorem x_cH_s (b : Int → Int) (T : Nat → Int → Int) (n p : Int) : x_kd b p = 4 ∧ x_cH b T n p = 1 ∨ x_kd b p ≠ 4 ∧ x_kd b p ≠ 1 ∧ x_cH b T n p = 2 ∨ x_kd b p = 1 ∧ x_li b p = -1 ∧ x_cH b T n p = 2 ∨ x_kd b p = 1 ∧ x_li b p ≠ -1 ∧ (x_li b p = 0 ∧ T 0 0 ≠ 0 ∨ x_li b p = 6 ∧ T 6 0 ≠ 0 ∨ x_li b p = 7 ∧ T 7 0 ≠ 0 ∨ x_li b p = 8 ∧ T 8 0 ≠ 0) ∧ x_cH b T n p = 4 ∨ x_kd b p = 1 ∧ x_li b p = 9 ∧ 8 ≤ n ∧ x_cH b T n p = 5 ∨ x_kd b p = 1 ∧ x_li b p ≠ -1 ∧ ¬ (x_li b p = 0 ∧ T 0 0 ≠ 0 ∨ x_li b p = 6 ∧ T 6 0 ≠ 0 ∨ x_li b p = 7 ∧ T 7 0 ≠ 0 ∨ x_li b p = 8 ∧ T 8 0 ≠ 0) ∧ ¬ (x_li b p = 9 ∧ 8 ≤ n) ∧ x_cH b T n p = 0 := by
  unfold x_cH
  by_cases h1 : x_kd b p = 4
  · rw [if_pos h1]; exact Or.inl ⟨h1, rfl⟩
  rw [if_neg h1]
  by_cases h2 : x_kd b p ≠ 1
  · rw [if_pos h2]; exact Or.inr (Or.inl ⟨h1, h2, rfl⟩)
  rw [if_neg h2]
  have h2' : x_kd b p = 1 := Decidable.of_not_not h2
  by_cases h3 : x_li b p = -1
  · rw [if_pos h3]; exact Or.inr (Or.inr (Or.inl ⟨h2', h3, rfl⟩))
  rw [if_neg h3]
  by_cases h4 : x_li b p = 0 ∧ T 0 0 ≠ 0 ∨ x_li b p = 6 ∧ T 6 0 ≠ 0 ∨ x_li b p = 7 ∧ T 7 0 ≠ 0 ∨ x_li b p = 8 ∧ T 8 0 ≠ 0
  · rw [if_pos h4]; exact Or.inr (Or.inr (Or.inr (Or.inl ⟨h2', h3, h4, rfl⟩)))
  rw [if_neg h4]
  by_cases h5 : x_li b p = 9 ∧ 8 ≤ n
  · rw [if_pos h5]; exact Or.inr (Or.inr (Or.inr (Or.inr (Or.inl ⟨h2', h5.1, h5.2, rfl⟩))))
  rw [if_neg h5]; exact Or.inr (Or.inr (Or.inr (Or.inr (Or.inr ⟨h2', h3, h4, h5, rfl⟩))))
theorem x_line_0 {b : Int → Int} {T : Nat → Int → Int} {n p u : Int} (hu : u = x_en b p) (hH : x_cH b T n p = 0) (hl : x_li b p = 0) : x_line b T n p = x_l0 b T u := by
  subst hu
  unfold x_line
  rw [x_sq_n hH, if_pos hl]
theorem x_line_1 {b : Int → Int} {T : Nat → Int → Int} {n p u : Int} (hu : u = x_en b p) (hH : x_cH b T n p = 0) (hl : x_li b p = 1) : x_line b T n p = x_l1 b T u := by
  subst hu
  unfold x_line
  rw [x_sq_n hH, if_neg (by (first | decide +kernel | with_reducible assumption | omega)), if_pos hl]
theorem x_line_2 {b : Int → Int} {T : Nat → Int → Int} {n p u : Int} (hu : u = x_en b p) (hH : x_cH b T n p = 0) (hl : x_li b p = 2) : x_line b T n p = x_l2 b T u := by
  subst hu
  unfold x_line
  rw [x_sq_n hH, if_neg (by (first | decide +kernel | with_reducible assumption | omega)), if_neg (by (first | decide +kernel | with_reducible assumption | omega)), if_pos hl]
theorem x_line_3 {b : Int → Int} {T : Nat → Int → Int} {n p u : Int} (hu : u = x_en b p) (hH : x_cH b T n p = 0) (hl : x_li b p = 3) : x_line b T n p = x_l3 b T u := by
  subst hu
  unfold x_line
  rw [x_sq_n hH, if_neg (by (first | decide +kernel | with_reducible assumption | omega)), if_neg (by (first | decide +kernel | with_reducible assumption | omega)), if_neg (by (first | decide +kernel | with_reducible assumption | omega)), if_pos hl]
theorem x_line_4 {b : Int → Int} {T : Nat → Int → Int} {n p u : Int} (hu : u = x_en b p) (hH : x_cH b T n p = 0) (hl : x_li b p = 4) : x_line b T n p = x_l4 b T u := by
  subst hu
  unfold x_line
  rw [x_sq_n hH, if_neg (by (first | decide +kernel | with_reducible assumption | omega)), if_neg (by (first | decide +kernel | with_reducible assumption | omega)), if_neg (by (first | decide +kernel | with_reducible assumption | omega)), if_neg (by (first | decide +kernel | with_reducible assumption | omega)), if_pos hl]
theorem x_line_5 {b : Int → Int} {T : Nat → Int → Int} {n p u : Int} (hu : u = x_en b p) (hH : x_cH b T n p = 0) (hl : x_li b p = 5) : x_line b T n p = x_l5 b T u := by
  subst hu
  unfold x_line
  rw [x_sq_n hH, if_neg (by (first | decide +kernel | with_reducible assumption | omega)), if_neg (by (first | decide +kernel | with_reducible assumption | omega)), if_neg (by (first | decide +kernel | with_reducible assumption | omega)), if_neg (by (first | decide +kernel | with_reducible assumption | omega)), if_neg (by (first | decide +kernel | with_reducible assumption | omega)), if_pos hl]
theorem x_line_6 {b : Int → Int} {T : Nat → Int → Int} {n p u : Int} (hu : u = x_en b p) (hH : x_cH b T n p = 0) (hl : x_li b p = 6) : x_line b T n p = x_l6 b T u := by
  subst hu
  unfold x_line
  rw [x_sq_n hH, if_neg (by (first | decide +kernel | with_reducible assumption | omega)), if_neg (by (first | decide +kernel | with_reducible assumption | omega)), if_neg (by (first | decide +kernel | with_reducible assumption | omega)), if_neg (by (first | decide +kernel | with_reducible assumption | omega)), if_neg (by (first | decide +kernel | with_reducible assumption | omega)), if_neg (by (first | decide +kernel | with_reducible assumption | omega)), if_pos hl]
theorem x_line_7 {b : Int → Int} {T : Nat → Int → Int} {n p u : Int} (hu : u = x_en b p) (hH : x_cH b T n p = 0) (hl : x_li b p = 7) : x_line b T n p = x_l7 b T u := by
  subst hu
  unfold x_line
  rw [x_sq_n hH, if_neg (by (first | decide +kernel | with_reducible assumption | omega)), if_neg (by (first | decide +kernel | with_reducible assumption | omega)), if_neg (by (first | decide +kernel | with_reducible assumption | omega)), if_neg (by (first | decide +kernel | with_reducible assumption | omega)), if_neg (by (first | decide +kernel | with_reducible assumption | omega)), if_neg (by (first | decide +kernel | with_reducible assumption | omega)), if_neg (by (first | decide +kernel | with_reducible assumption | omega)), if_pos hl]
theorem x_line_8 {b : Int → Int} {T : Nat → Int → Int} {n p u : Int} (hu : u = x_en b p) (hH : x_cH b T n p = 0) (hl : x_li b p = 8) : x_line b T n p = x_l8 b T u := by
  subst hu
  unfold x_line
  rw [x_sq_n hH, if_neg (by (first | decide +kernel | with_reducible assumption | omega)), if_neg (by (first | decide +kernel | with_reducible assumption | omega)), if_neg (by (first | decide +kernel | with_reducible assumption | omega)), if_neg (by (first | decide +kernel | with_reducible assumption | omega)), if_neg (by (first | decide +kernel | with_reducible assumption | omega)), if_neg (by (first | decide +kernel | with_reducible assumption | omega)), if_neg (by (first | decide +kernel | with_reducible assumption | omega)), if_neg (by (first | decide +kernel | with_reducible assumption | omega)), if_pos hl]
theorem x_line_9 {b : Int → Int} {T : Nat → Int → Int} {n p u : Int} (hu : u = x_en b p) (hH : x_cH b T n p = 0) (hl : x_li b p = 9) : x_line b T n p = x_l9 b T u := by
  subst hu
  unfold x_line
  rw [x_sq_n hH, if_neg (by (first | decide +kernel | with_reducible assumption | omega)), if_neg (by (first | decide +kernel | with_reducible assumption | omega)), if_neg (by (first | decide +kernel | with_reducible assumption | omega)), if_neg (by (first | decide +kernel | with_reducible assumption | omega)), if_neg (by (first | decide +kernel | with_reducible assumption | omega)), if_neg (by (first | decide +kernel | with_reducible assumption | omega)), if_neg (by (first | decide +kernel | with_reducible assumption | omega)), if_neg (by (first | decide +kernel | with_reducible assumption | omega)), if_neg (by (first | decide +kernel | with_reducible assumption | omega))]
theorem x_line_H {b : Int → Int} {T : Nat → Int → Int} {n p : Int} (hH : x_cH b T n p ≠ 0) : x_line b T n p = (x_cH b T n p, x_fr b p) := x_sq_y hH
/-- a bit, as both programs ask for it -/
def x_bt (x : Int32) (c : Int) : Int := ((x >>> (Int32.ofInt c &&& 31)) &&& 1).toInt
def x_TB (z : Int32) (t : Int → Int) : Prop := (∀ c : Int, 0 ≤ c → c ≤ 15 → x_bt z c = t c) ∧ ∀ i : Nat, 16 ≤ i → z.toBitVec.getLsbD i = false
theorem x_TB_cg {z : Int32} {t t' : Int → Int} (e : ∀ c : Int, t' c = t c) (r : x_TB z t) : x_TB z t' := ⟨fun c h0 h1 => by rw [e c]; exact r.1 c h0 h1, r.2⟩
theorem x_bt_of {z v y s : Int32} {t : Int → Int} {V Y : Int} (tb : x_TB z t) (h0 : 0 ≤ V) (h1 : V ≤ 15) (pv : v.toInt = V) (py : y.toInt = Y) (e2 : y = s &&& 1) (e1 : s = z >>> (v &&& 31)) : Y = t V := by
  have hv : v = Int32.ofInt V := by rw [← pv, Int32.ofInt_toInt]
  rw [← tb.1 V h0 h1, ← py, e2, e1, hv]
  rfl
theorem x_nt_b (b : Int → Int) (f e : Int) : -1 ≤ x_nt b f e ∧ x_nt b f e ≤ 4 := by
  unfold x_nt
  repeat' split
  all_goals omega
theorem x_ln_b (b : Int → Int) (f e : Int) : -1 ≤ x_ln b f e ∧ x_ln b f e ≤ 9 := by
  unfold x_ln
  repeat' split
  all_goals omega
theorem x_T_0 {b : Int → Int} {p u : Int} (T : Nat → Int → Int) (hu : u = x_en b p) (hl : x_li b p = 0) : x_T b T p = x_upT T 0 0 := by
  subst hu
  unfold x_T
  rw [if_neg (by (first | decide +kernel | with_reducible assumption | omega)), hl]
theorem x_D_0 {b : Int → Int} {p u : Int} (D : Nat → Int) (hu : u = x_en b p) (hl : x_li b p = 0) : x_D b D p = x_up (x_up D 144 (x_vl b u)) 145 (x_vl b (x_en b u)) := by
  subst hu
  unfold x_D
  rw [if_pos hl]
theorem x_T_1 {b : Int → Int} {p u : Int} (T : Nat → Int → Int) (hu : u = x_en b p) (hl : x_li b p = 1) : x_T b T p = x_upT T 1 (x_vl b u) := by
  subst hu
  unfold x_T
  rw [if_pos (by (first | decide +kernel | with_reducible assumption | omega)), hl]
theorem x_D_1 {b : Int → Int} {p u : Int} (D : Nat → Int) (hu : u = x_en b p) (hl : x_li b p = 1) : x_D b D p = x_up D (x_vl b u) (x_vl b (x_en b u)) := by
  subst hu
  unfold x_D
  rw [if_neg (by (first | decide +kernel | with_reducible assumption | omega)), if_pos hl]
theorem x_T_2 {b : Int → Int} {p u : Int} (T : Nat → Int → Int) (hu : u = x_en b p) (hl : x_li b p = 2) : x_T b T p = x_upT T 2 (x_vl b u) := by
  subst hu
  unfold x_T
  rw [if_pos (by (first | decide +kernel | with_reducible assumption | omega)), hl]
theorem x_D_2 {b : Int → Int} {p u : Int} (D : Nat → Int) (hu : u = x_en b p) (hl : x_li b p = 2) : x_D b D p = x_up D (16 + (x_vl b u)) 1 := by
  subst hu
  unfold x_D
  rw [if_neg (by (first | decide +kernel | with_reducible assumption | omega)), if_neg (by (first | decide +kernel | with_reducible assumption | omega)), if_pos hl]
theorem x_T_3 {b : Int → Int} {p u : Int} (T : Nat → Int → Int) (hu : u = x_en b p) (hl : x_li b p = 3) : x_T b T p = x_upT T 3 (x_vl b u) := by
  subst hu
  unfold x_T
  rw [if_pos (by (first | decide +kernel | with_reducible assumption | omega)), hl]
theorem x_D_3 {b : Int → Int} {p u : Int} (D : Nat → Int) (hu : u = x_en b p) (hl : x_li b p = 3) : x_D b D p = x_up D (32 + (x_vl b u)) (x_vl b (x_en b u)) := by
  subst hu
  unfold x_D
  rw [if_neg (by (first | decide +kernel | with_reducible assumption | omega)), if_neg (by (first | decide +kernel | with_reducible assumption | omega)), if_neg (by (first | decide +kernel | with_reducible assumption | omega)), if_pos hl]
theorem x_T_4 {b : Int → Int} {p u : Int} (T : Nat → Int → Int) (hu : u = x_en b p) (hl : x_li b p = 4) : x_T b T p = x_upT T 4 (x_vl b u) := by
  subst hu
  unfold x_T
  rw [if_pos (by (first | decide +kernel | with_reducible assumption | omega)), hl]
theorem x_D_4 {b : Int → Int} {p u : Int} (D : Nat → Int) (hu : u = x_en b p) (hl : x_li b p = 4) : x_D b D p = x_up D (48 + (x_vl b u)) (x_vl b (x_en b u)) := by
  subst hu
  unfold x_D
  rw [if_neg (by (first | decide +kernel | with_reducible assumption | omega)), if_neg (by (first | decide +kernel | with_reducible assumption | omega)), if_neg (by (first | decide +kernel | with_reducible assumption | omega)), if_neg (by (first | decide +kernel | with_reducible assumption | omega)), if_pos hl]
theorem x_T_5 {b : Int → Int} {p u : Int} (T : Nat → Int → Int) (hu : u = x_en b p) (hl : x_li b p = 5) : x_T b T p = x_upT T 5 (x_vl b u) := by
  subst hu
  unfold x_T
  rw [if_pos (by (first | decide +kernel | with_reducible assumption | omega)), hl]
theorem x_D_5 {b : Int → Int} {p u : Int} (D : Nat → Int) (hu : u = x_en b p) (hl : x_li b p = 5) : x_D b D p = x_up D (80 + (x_vl b u)) (x_vl b (x_en b u)) := by
  subst hu
  unfold x_D
  rw [if_neg (by (first | decide +kernel | with_reducible assumption | omega)), if_neg (by (first | decide +kernel | with_reducible assumption | omega)), if_neg (by (first | decide +kernel | with_reducible assumption | omega)), if_neg (by (first | decide +kernel | with_reducible assumption | omega)), if_neg (by (first | decide +kernel | with_reducible assumption | omega)), if_pos hl]
theorem x_T_6 {b : Int → Int} {p u : Int} (T : Nat → Int → Int) (hu : u = x_en b p) (hl : x_li b p = 6) : x_T b T p = x_upT T 6 0 := by
  subst hu
  unfold x_T
  rw [if_neg (by (first | decide +kernel | with_reducible assumption | omega)), hl]
theorem x_D_6 {b : Int → Int} {p u : Int} (D : Nat → Int) (hu : u = x_en b p) (hl : x_li b p = 6) : x_D b D p = x_up D 146 (x_vl b u) := by
  subst hu
  unfold x_D
  rw [if_neg (by (first | decide +kernel | with_reducible assumption | omega)), if_neg (by (first | decide +kernel | with_reducible assumption | omega)), if_neg (by (first | decide +kernel | with_reducible assumption | omega)), if_neg (by (first | decide +kernel | with_reducible assumption | omega)), if_neg (by (first | decide +kernel | with_reducible assumption | omega)), if_neg (by (first | decide +kernel | with_reducible assumption | omega)), if_pos hl]
theorem x_T_7 {b : Int → Int} {p u : Int} (T : Nat → Int → Int) (hu : u = x_en b p) (hl : x_li b p = 7) : x_T b T p = x_upT T 7 0 := by
  subst hu
  unfold x_T
  rw [if_neg (by (first | decide +kernel | with_reducible assumption | omega)), hl]
theorem x_D_7 {b : Int → Int} {p u : Int} (D : Nat → Int) (hu : u = x_en b p) (hl : x_li b p = 7) : x_D b D p = x_up D 147 (x_vl b u) := by
  subst hu
  unfold x_D
  rw [if_neg (by (first | decide +kernel | with_reducible assumption | omega)), if_neg (by (first | decide +kernel | with_reducible assumption | omega)), if_neg (by (first | decide +kernel | with_reducible assumption | omega)), if_neg (by (first | decide +kernel | with_reducible assumption | omega)), if_neg (by (first | decide +kernel | with_reducible assumption | omega)), if_neg (by (first | decide +kernel | with_reducible assumption | omega)), if_neg (by (first | decide +kernel | with_reducible assumption | omega)), if_pos hl]
theorem x_T_8 {b : Int → Int} {p u : Int} (T : Nat → Int → Int) (hu : u = x_en b p) (hl : x_li b p = 8) : x_T b T p = x_upT T 8 0 := by
  subst hu
  unfold x_T
  rw [if_neg (by (first | decide +kernel | with_reducible assumption | omega)), hl]
theorem x_D_8 {b : Int → Int} {p u : Int} (D : Nat → Int) (hu : u = x_en b p) (hl : x_li b p = 8) : x_D b D p = x_up (x_up D 84 (x_nn b u)) 85 (x_vl b (x_en b u)) := by
  subst hu
  unfold x_D
  rw [if_neg (by (first | decide +kernel | with_reducible assumption | omega)), if_neg (by (first | decide +kernel | with_reducible assumption | omega)), if_neg (by (first | decide +kernel | with_reducible assumption | omega)), if_neg (by (first | decide +kernel | with_reducible assumption | omega)), if_neg (by (first | decide +kernel | with_reducible assumption | omega)), if_neg (by (first | decide +kernel | with_reducible assumption | omega)), if_neg (by (first | decide +kernel | with_reducible assumption | omega)), if_neg (by (first | decide +kernel | with_reducible assumption | omega)), if_pos hl]
theorem x_T_9 {b : Int → Int} {p u : Int} (T : Nat → Int → Int) (hu : u = x_en b p) (hl : x_li b p = 9) : x_T b T p = x_upT T 9 0 := by
  subst hu
  unfold x_T
  rw [if_neg (by (first | decide +kernel | with_reducible assumption | omega)), hl]
theorem x_D_9 {b : Int → Int} {p u : Int} (D : Nat → Int) (hu : u = x_en b p) (hl : x_li b p = 9) : x_D b D p = x_up (x_up (x_up (x_up D (87 + 3 * D 86) (x_vl b u)) (88 + 3 * D 86) (x_vl b (x_en b u))) (89 + 3 * D 86) (x_vl b (x_en b (x_en b u)))) 86 (D 86 + 1) := by
  subst hu
  unfold x_D
  rw [if_neg (by (first | decide +kernel | with_reducible assumption | omega)), if_neg (by (first | decide +kernel | with_reducible assumption | omega)), if_neg (by (first | decide +kernel | with_reducible assumption | omega)), if_neg (by (first | decide +kernel | with_reducible assumption | omega)), if_neg (by (first | decide +kernel | with_reducible assumption | omega)), if_neg (by (first | decide +kernel | with_reducible assumption | omega)), if_neg (by (first | decide +kernel | with_reducible assumption | omega)), if_neg (by (first | decide +kernel | with_reducible assumption | omega)), if_neg (by (first | decide +kernel | with_reducible assumption | omega))]
theorem pq {a b c d : Int} (h1 : a = c) (h2 : b = d) : (a, b) = (c, d) := by rw [h1, h2]
theorem x_up86 {D : Nat → Int} {k v : Int} (h : k ≠ 86) : x_up D k v 86 = D 86 := if_neg (by (first | decide +kernel | with_reducible assumption | omega))
end
section
theorem num_3 {b : Int → Int} {t lo hi v : Int} (h : x_kd b t = 2) (hv : v = x_vl b t) (c : v < lo ∨ hi < v) : x_cN b t lo hi = 3 := by
  rcases x_cN_s b t lo hi with ⟨a, _⟩ | ⟨_, a, _⟩ | ⟨_, _, a⟩ | ⟨_, a1, a2, _⟩
  · omega
  · omega
  · exact a
  · exfalso; omega
theorem num_0 {b : Int → Int} {t lo hi v : Int} (h : x_kd b t = 2) (hv : v = x_vl b t) (c : lo ≤ v ∧ v ≤ hi) : x_cN b t lo hi = 0 := by
  rcases x_cN_s b t lo hi with ⟨a, _⟩ | ⟨_, a, _⟩ | ⟨_, a, _⟩ | ⟨_, _, _, a⟩
  · omega
  · omega
  · exfalso; omega
  · exact a
theorem num_k {b : Int → Int} {t s f k u v r e w y a : Int} (lo hi : Int) (p : f = x_fr b t ∧ k = x_kd b t ∧ (k = 4 ∨ u = x_en b t) ∧ (k ≠ 2 ∨ v = x_vl b t ∧ 0 ≤ v ∧ v ≤ 99) ∧ t ≤ f ∧ f ≤ u ∧ u ≤ s ∧ (k = 0 ∧ f = s ∨ k ≠ 0 ∧ f < s) ∧ 0 ≤ k ∧ k ≤ 4 ∧ (k = 0 ∨ k = 4 ∨ f < u)) (q : k = 4 ∧ r = 0 ∧ e = 1 ∧ y = f ∨ k ≠ 4 ∧ k = 2 ∧ r = 1 ∧ e = w ∧ y = a ∨ k ≠ 4 ∧ k ≠ 2 ∧ r = 0 ∧ e = 2 ∧ y = f) (hr : r = 0) : x_cN b t lo hi ≠ 0 ∧ e = x_cN b t lo hi ∧ y = x_fr b t := by
  obtain ⟨p1, p2, _⟩ := p
  rcases kd_n q hr with ⟨q1, q2, q3⟩ | ⟨q1, q2, q3, q4⟩
  · rcases x_cN_s b t lo hi with ⟨_, a⟩ | ⟨a, _⟩ | ⟨a, _⟩ | ⟨a, _⟩
    · exact ⟨by (first | decide +kernel | with_reducible assumption | omega), by (first | decide +kernel | with_reducible assumption | omega), by (first | decide +kernel | with_reducible assumption | omega)⟩
    · omega
    · omega
    · omega
  · rcases x_cN_s b t lo hi with ⟨a, _⟩ | ⟨_, _, a⟩ | ⟨a, _⟩ | ⟨a, _⟩
    · omega
    · exact ⟨by (first | decide +kernel | with_reducible assumption | omega), by (first | decide +kernel | with_reducible assumption | omega), by (first | decide +kernel | with_reducible assumption | omega)⟩
    · omega
    · omega
theorem nu_all {b : Int → Int} {p0 c d s p g k v w a z u1 y1 q f m x u y : Int} (h1 : 0 ≤ p ∧ p ≤ s ∧ 0 ≤ w) (h2 : w ≠ 0 ∨ (g = x_fr b p0 ∧ k = x_kd b p0 ∧ k ≠ 4 ∧ 0 ≤ k ∧ k ≤ 3 ∧ p = x_en b p0 ∧ (k ≠ 2 ∨ v = x_vl b p0 ∧ 0 ≤ v ∧ v ≤ 99) ∧ p0 ≤ g ∧ g ≤ p ∧ p ≤ s ∧ (k = 0 ∨ g < p)))
    (p6 : w ≠ 0 ∧ u1 = w ∧ y1 = a ∧ z = 0 ∨ w = 0 ∧ k ≠ 2 ∧ u1 = 2 ∧ y1 = g ∧ z = 0 ∨ w = 0 ∧ k = 2 ∧ (v < c ∨ d < v) ∧ u1 = 3 ∧ y1 = g ∧ z = 0 ∨ w = 0 ∧ k = 2 ∧ c ≤ v ∧ v ≤ d ∧ u1 = 0 ∧ y1 = a ∧ z = v)
    (p18 : u1 ≠ 0 ∧ q = p ∧ f = g ∧ m = k ∧ x = v ∧ u = u1 ∧ y = y1 ∨ u1 = 0 ∧ f = x_fr b p ∧ p ≤ f ∧ f ≤ q ∧ q ≤ s ∧ (u = 1 ∧ x_kd b p = 4 ∧ y = f ∨ u = 0 ∧ y = y1 ∧ m = x_kd b p ∧ m ≠ 4 ∧ 0 ≤ m ∧ m ≤ 3 ∧ q = x_en b p ∧ (m ≠ 2 ∨ x = x_vl b p ∧ 0 ≤ x ∧ x ≤ 99) ∧ (m = 0 ∨ f < q))) :
    (w ≠ 0 ∧ u = w ∧ y = a ∧ z = 0 ∨ w = 0 ∧ x_cN b p0 c d ≠ 0 ∧ u = x_cN b p0 c d ∧ y = x_fr b p0 ∧ z = 0 ∨ w = 0 ∧ x_cN b p0 c d = 0 ∧ z = x_vl b p0 ∧ (u = 1 ∧ x_kd b (x_en b p0) = 4 ∧ y = x_fr b (x_en b p0) ∨ u = 0 ∧ f = x_fr b (x_en b p0) ∧ m = x_kd b (x_en b p0) ∧ m ≠ 4 ∧ 0 ≤ m ∧ m ≤ 3 ∧ q = x_en b (x_en b p0) ∧ (m ≠ 2 ∨ x = x_vl b (x_en b p0) ∧ 0 ≤ x ∧ x ≤ 99) ∧ (x_en b p0) ≤ f ∧ f ≤ q ∧ q ≤ s ∧ (m = 0 ∨ f < q))) ∧ 0 ≤ q ∧ q ≤ s ∧ 0 ≤ u := by
  by_cases hw : w = 0
  · obtain ⟨a1, a2, a3, a4, a5, a6, a7, a8, a9, a10, a11⟩ := h2.resolve_left (fun n => n hw)
    clear h2 a11
    have K : x_cN b p0 c d = u1 ∧ (u1 ≠ 0 ∧ 0 ≤ u1 ∧ y1 = g ∧ z = 0 ∨ u1 = 0 ∧ y1 = a ∧ z = v ∧ k = 2) := by
      clear p18
      rcases p6 with ⟨b1, _⟩ | ⟨_, b2, b3, b4, b5⟩ | ⟨_, b2, b3, b4, b5, b6⟩ | ⟨_, b2, b3, b4, b5, b6, b7⟩
      · exact absurd hw b1
      · rcases x_cN_s b p0 c d with ⟨e, _⟩ | ⟨_, _, e⟩ | ⟨e, _⟩ | ⟨e, _⟩
        · omega
        · exact ⟨by (first | decide +kernel | with_reducible assumption | omega), Or.inl ⟨by (first | decide +kernel | with_reducible assumption | omega), by (first | decide +kernel | with_reducible assumption | omega), b4, b5⟩⟩
        · omega
        · omega
      · have e7 := a7.resolve_left (fun n => n b2)
        exact ⟨(num_3 (by (first | decide +kernel | with_reducible assumption | omega)) e7.1 b3).trans b4.symm, Or.inl ⟨by (first | decide +kernel | with_reducible assumption | omega), by (first | decide +kernel | with_reducible assumption | omega), b5, b6⟩⟩
      · have e7 := a7.resolve_left (fun n => n b2)
        exact ⟨(num_0 (by (first | decide +kernel | with_reducible assumption | omega)) e7.1 ⟨b3, b4⟩).trans b5.symm, Or.inr ⟨b5, b6, b7, b2⟩⟩
    clear p6
    rcases K with ⟨e, ⟨k1, k0, k2, k3⟩ | ⟨k1, k2, k3, k4⟩⟩
    · obtain ⟨_, q1, q2, q3, q4, q5, q6⟩ := p18.resolve_right (fun n => k1 n.1)
      exact ⟨Or.inr (Or.inl ⟨hw, by (first | decide +kernel | with_reducible assumption | omega), by (first | decide +kernel | with_reducible assumption | omega), by (first | decide +kernel | with_reducible assumption | omega), k3⟩), by (first | decide +kernel | with_reducible assumption | omega), by (first | decide +kernel | with_reducible assumption | omega), by (first | decide +kernel | with_reducible assumption | omega)⟩
    · obtain ⟨_, q1, q2, q3, q4, q5⟩ := p18.resolve_left (fun n => n.1 k1)
      have e7 := a7.resolve_left (fun n => n k4)
      clear p18 a7
      rw [a6] at q1 q2 q5
      rcases q5 with ⟨r1, r2, r3⟩ | ⟨r1, r2, r3, r4, r5, r6, r7, r8, r9⟩
      · exact ⟨Or.inr (Or.inr ⟨hw, e.trans k1, k3.trans e7.1, Or.inl ⟨r1, r2, r3.trans q1⟩⟩), by (first | decide +kernel | with_reducible assumption | omega), by (first | decide +kernel | with_reducible assumption | omega), by (first | decide +kernel | with_reducible assumption | omega)⟩
      · exact ⟨Or.inr (Or.inr ⟨hw, e.trans k1, k3.trans e7.1, Or.inr ⟨r1, q1, r3, r4, r5, r6, r7, r8, q2, q3, q4, r9⟩⟩), by (first | decide +kernel | with_reducible assumption | omega), by (first | decide +kernel | with_reducible assumption | omega), by (first | decide +kernel | with_reducible assumption | omega)⟩
  · have b1 : u1 = w ∧ y1 = a ∧ z = 0 := by
      rcases p6 with ⟨_, b⟩ | ⟨b, _⟩ | ⟨b, _⟩ | ⟨b, _⟩
      · exact b
      · exact absurd b hw
      · exact absurd b hw
      · exact absurd b hw
    clear p6 h2
    obtain ⟨_, q1, q2, q3, q4, q5, q6⟩ := p18.resolve_right (fun n => by (first | decide +kernel | with_reducible assumption | omega))
    clear p18
    exact ⟨Or.inl ⟨hw, by (first | decide +kernel | with_reducible assumption | omega), by (first | decide +kernel | with_reducible assumption | omega), b1.2.2⟩, by (first | decide +kernel | with_reducible assumption | omega), by (first | decide +kernel | with_reducible assumption | omega), by (first | decide +kernel | with_reducible assumption | omega)⟩
theorem cN_0 {b : Int → Int} {t lo hi : Int} (h : x_cN b t lo hi = 0) : x_kd b t = 2 ∧ lo ≤ x_vl b t ∧ x_vl b t ≤ hi := by
  rcases x_cN_s b t lo hi with ⟨_, a⟩ | ⟨_, _, a⟩ | ⟨_, _, a⟩ | ⟨a, a1, a2, _⟩
  · omega
  · omega
  · omega
  · exact ⟨a, a1, a2⟩
theorem cS_of {b : Int → Int} {t : Int} (h : x_kd b t = 3) : x_cS b t = 0 := by
  unfold x_cS
  rw [if_neg (by (first | decide +kernel | with_reducible assumption | omega)), if_neg (by (first | decide +kernel | with_reducible assumption | omega))]
theorem cH_0 {b : Int → Int} {T : Nat → Int → Int} {n p : Int} (k : x_kd b p = 1) (l : x_li b p ≠ -1) (a : ¬ (x_li b p = 0 ∧ T 0 0 ≠ 0 ∨ x_li b p = 6 ∧ T 6 0 ≠ 0 ∨ x_li b p = 7 ∧ T 7 0 ≠ 0 ∨ x_li b p = 8 ∧ T 8 0 ≠ 0)) (c : ¬ (x_li b p = 9 ∧ 8 ≤ n)) : x_cH b T n p = 0 := by
  rcases x_cH_s b T n p with ⟨q, _⟩ | ⟨_, q, _⟩ | ⟨_, q, _⟩ | ⟨_, _, q, _⟩ | ⟨_, q1, q2, _⟩ | q
  · omega
  · omega
  · exact absurd q l
  · exact absurd q a
  · exact absurd ⟨q1, q2⟩ c
  · omega
theorem lk_all {b : Int → Int} {p0 c d s p g k v w a z u1 y1 : Int} (h2 : g = x_fr b p0 ∧ k = x_kd b p0 ∧ k ≠ 4 ∧ 0 ≤ k ∧ k ≤ 3 ∧ p = x_en b p0 ∧ (k ≠ 2 ∨ v = x_vl b p0 ∧ 0 ≤ v ∧ v ≤ 99) ∧ p0 ≤ g ∧ g ≤ p ∧ p ≤ s ∧ (k = 0 ∨ g < p)) (hw : w = 0)
    (p6 : w ≠ 0 ∧ u1 = w ∧ y1 = a ∧ z = 0 ∨ w = 0 ∧ k ≠ 2 ∧ u1 = 2 ∧ y1 = g ∧ z = 0 ∨ w = 0 ∧ k = 2 ∧ (v < c ∨ d < v) ∧ u1 = 3 ∧ y1 = g ∧ z = 0 ∨ w = 0 ∧ k = 2 ∧ c ≤ v ∧ v ≤ d ∧ u1 = 0 ∧ y1 = a ∧ z = v) :
    x_cN b p0 c d = u1 ∧ (u1 ≠ 0 ∧ 0 ≤ u1 ∧ y1 = g ∧ z = 0 ∨ u1 = 0 ∧ y1 = a ∧ z = v ∧ k = 2 ∧ v = x_vl b p0 ∧ c ≤ v ∧ v ≤ d) := by
  obtain ⟨a1, a2, a3, a4, a5, a6, a7, a8, a9, a10, a11⟩ := h2
  clear a11
  rcases p6 with ⟨b1, _⟩ | ⟨_, b2, b3, b4, b5⟩ | ⟨_, b2, b3, b4, b5, b6⟩ | ⟨_, b2, b3, b4, b5, b6, b7⟩
  · exact absurd hw b1
  · rcases x_cN_s b p0 c d with ⟨e, _⟩ | ⟨_, _, e⟩ | ⟨e, _⟩ | ⟨e, _⟩
    · omega
    · exact ⟨by (first | decide +kernel | with_reducible assumption | omega), Or.inl ⟨by (first | decide +kernel | with_reducible assumption | omega), by (first | decide +kernel | with_reducible assumption | omega), b4, b5⟩⟩
    · omega
    · omega
  · have e7 := a7.resolve_left (fun n => n b2)
    exact ⟨(num_3 (by (first | decide +kernel | with_reducible assumption | omega)) e7.1 b3).trans b4.symm, Or.inl ⟨by (first | decide +kernel | with_reducible assumption | omega), by (first | decide +kernel | with_reducible assumption | omega), b5, b6⟩⟩
  · have e7 := a7.resolve_left (fun n => n b2)
    exact ⟨(num_0 (by (first | decide +kernel | with_reducible assumption | omega)) e7.1 ⟨b3, b4⟩).trans b5.symm, Or.inr ⟨b5, b6, b7, b2, e7.1, b3, b4⟩⟩
theorem lx_s {b : Int → Int} {p0 s p g k v : Int} (h2 : g = x_fr b p0 ∧ k = x_kd b p0 ∧ k ≠ 4 ∧ 0 ≤ k ∧ k ≤ 3 ∧ p = x_en b p0 ∧ (k ≠ 2 ∨ v = x_vl b p0 ∧ 0 ≤ v ∧ v ≤ 99) ∧ p0 ≤ g ∧ g ≤ p ∧ p ≤ s ∧ (k = 0 ∨ g < p)) : g = x_fr b p0 ∧ k = x_kd b p0 ∧ k ≠ 4 ∧ 0 ≤ k ∧ k ≤ 3 ∧ p = x_en b p0 ∧ p0 ≤ g ∧ g ≤ p ∧ p ≤ s := ⟨h2.1, h2.2.1, h2.2.2.1, h2.2.2.2.1, h2.2.2.2.2.1, h2.2.2.2.2.2.1, h2.2.2.2.2.2.2.2.1, h2.2.2.2.2.2.2.2.2.1, h2.2.2.2.2.2.2.2.2.2.1⟩
theorem nx_1 {b : Int → Int} {w f p q s u y m x a : Int} (h : w = 0 ∧ f = x_fr b p ∧ p ≤ f ∧ f ≤ q ∧ q ≤ s ∧ (u = 1 ∧ x_kd b p = 4 ∧ y = f ∨ u = 0 ∧ y = a ∧ m = x_kd b p ∧ m ≠ 4 ∧ 0 ≤ m ∧ m ≤ 3 ∧ q = x_en b p ∧ (m ≠ 2 ∨ x = x_vl b p ∧ 0 ≤ x ∧ x ≤ 99) ∧ (m = 0 ∨ f < q))) (hu : u ≠ 0) : w = 0 ∧ f = x_fr b p ∧ p ≤ f ∧ f ≤ q ∧ q ≤ s ∧ u = 1 ∧ x_kd b p = 4 ∧ y = f := by
  obtain ⟨h1, h2, h3, h4, h5, h6⟩ := h
  exact ⟨h1, h2, h3, h4, h5, h6.resolve_right (fun n => hu n.1)⟩
theorem nx_0 {b : Int → Int} {w f p q s u y m x a : Int} (h : w = 0 ∧ f = x_fr b p ∧ p ≤ f ∧ f ≤ q ∧ q ≤ s ∧ (u = 1 ∧ x_kd b p = 4 ∧ y = f ∨ u = 0 ∧ y = a ∧ m = x_kd b p ∧ m ≠ 4 ∧ 0 ≤ m ∧ m ≤ 3 ∧ q = x_en b p ∧ (m ≠ 2 ∨ x = x_vl b p ∧ 0 ≤ x ∧ x ≤ 99) ∧ (m = 0 ∨ f < q))) (hu : u = 0) : w = 0 ∧ f = x_fr b p ∧ p ≤ f ∧ f ≤ q ∧ q ≤ s ∧ u = 0 ∧ y = a ∧ m = x_kd b p ∧ m ≠ 4 ∧ 0 ≤ m ∧ m ≤ 3 ∧ q = x_en b p ∧ (m ≠ 2 ∨ x = x_vl b p ∧ 0 ≤ x ∧ x ≤ 99) ∧ (m = 0 ∨ f < q) := by
  obtain ⟨h1, h2, h3, h4, h5, h6⟩ := h
  exact ⟨h1, h2, h3, h4, h5, h6.resolve_left (fun n => by (first | decide +kernel | with_reducible assumption | omega))⟩
theorem nx_e {b : Int → Int} {w f p q s u y m x a e : Int} (h : w = 0 ∧ f = x_fr b p ∧ p ≤ f ∧ f ≤ q ∧ q ≤ s ∧ (u = 1 ∧ x_kd b p = 4 ∧ y = f ∨ u = 0 ∧ y = a ∧ m = x_kd b p ∧ m ≠ 4 ∧ 0 ≤ m ∧ m ≤ 3 ∧ q = x_en b p ∧ (m ≠ 2 ∨ x = x_vl b p ∧ 0 ≤ x ∧ x ≤ 99) ∧ (m = 0 ∨ f < q))) (hp : p = e) : u = 1 ∧ x_kd b e = 4 ∧ y = x_fr b e ∨ u = 0 ∧ f = x_fr b e ∧ m = x_kd b e ∧ m ≠ 4 ∧ 0 ≤ m ∧ m ≤ 3 ∧ q = x_en b e ∧ (m ≠ 2 ∨ x = x_vl b e ∧ 0 ≤ x ∧ x ≤ 99) ∧ e ≤ f ∧ f ≤ q ∧ q ≤ s ∧ (m = 0 ∨ f < q) := by
  subst hp
  obtain ⟨h1, h2, h3, h4, h5, ⟨r1, r2, r3⟩ | ⟨r1, r2, r3, r4, r5, r6, r7, r8, r9⟩⟩ := h
  · exact Or.inl ⟨r1, r2, r3.trans h2⟩
  · exact Or.inr ⟨r1, h2, r3, r4, r5, r6, r7, r8, h3, h4, h5, r9⟩
theorem lx_of {b : Int → Int} {w f p q s u y m x a e : Int} (h : w = 0 ∧ f = x_fr b p ∧ p ≤ f ∧ f ≤ q ∧ q ≤ s ∧ u = 0 ∧ y = a ∧ m = x_kd b p ∧ m ≠ 4 ∧ 0 ≤ m ∧ m ≤ 3 ∧ q = x_en b p ∧ (m ≠ 2 ∨ x = x_vl b p ∧ 0 ≤ x ∧ x ≤ 99) ∧ (m = 0 ∨ f < q)) (hp : p = e) : f = x_fr b e ∧ m = x_kd b e ∧ m ≠ 4 ∧ 0 ≤ m ∧ m ≤ 3 ∧ q = x_en b e ∧ (m ≠ 2 ∨ x = x_vl b e ∧ 0 ≤ x ∧ x ≤ 99) ∧ e ≤ f ∧ f ≤ q ∧ q ≤ s ∧ (m = 0 ∨ f < q) := by
  subst hp
  obtain ⟨h1, h2, h3, h4, h5, r1, r2, r3, r4, r5, r6, r7, r8, r9⟩ := h
  exact ⟨h2, r3, r4, r5, r6, r7, r8, h3, h4, h5, r9⟩
theorem cH_1 {b : Int → Int} {T : Nat → Int → Int} {n p : Int} (k : x_kd b p = 4) : x_cH b T n p = 1 := by
  rcases x_cH_s b T n p with ⟨_, q⟩ | ⟨q, _⟩ | ⟨q, _⟩ | ⟨q, _⟩ | ⟨q, _⟩ | ⟨q, _⟩
  · exact q
  · exact absurd k q
  · omega
  · omega
  · omega
  · omega
theorem cH_2 {b : Int → Int} {T : Nat → Int → Int} {n p : Int} (k : x_kd b p ≠ 4) (l : x_kd b p ≠ 1 ∨ x_li b p = -1) : x_cH b T n p = 2 := by
  rcases x_cH_s b T n p with ⟨q, _⟩ | ⟨_, _, q⟩ | ⟨_, _, q⟩ | ⟨q, q2, _⟩ | ⟨q, q2, _⟩ | ⟨q, q2, _⟩
  · exact absurd q k
  · exact q
  · exact q
  · rcases l with l | l
    · exact absurd q l
    · exact absurd l q2
  · rcases l with l | l
    · exact absurd q l
    · omega
  · rcases l with l | l
    · exact absurd q l
    · exact absurd l q2
theorem cH_4 {b : Int → Int} {T : Nat → Int → Int} {n p : Int} (k : x_kd b p = 1) (l : x_li b p ≠ -1) (a : x_li b p = 0 ∧ T 0 0 ≠ 0 ∨ x_li b p = 6 ∧ T 6 0 ≠ 0 ∨ x_li b p = 7 ∧ T 7 0 ≠ 0 ∨ x_li b p = 8 ∧ T 8 0 ≠ 0) : x_cH b T n p = 4 := by
  rcases x_cH_s b T n p with ⟨q, _⟩ | ⟨_, q, _⟩ | ⟨_, q, _⟩ | ⟨_, _, _, q⟩ | ⟨_, q, _⟩ | ⟨_, _, q, _⟩
  · omega
  · exact absurd k q
  · exact absurd q l
  · exact q
  · omega
  · exact absurd a q
theorem cH_5 {b : Int → Int} {T : Nat → Int → Int} {n p : Int} (k : x_kd b p = 1) (l : x_li b p = 9) (c : 8 ≤ n) : x_cH b T n p = 5 := by
  rcases x_cH_s b T n p with ⟨q, _⟩ | ⟨_, q, _⟩ | ⟨_, q, _⟩ | ⟨_, _, q, _⟩ | ⟨_, _, _, q⟩ | ⟨_, _, _, q, _⟩
  · omega
  · exact absurd k q
  · omega
  · omega
  · exact q
  · exact absurd ⟨l, c⟩ q
end
