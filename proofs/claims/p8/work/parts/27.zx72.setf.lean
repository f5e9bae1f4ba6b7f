def ru (a : Int) (r w g x y n m t : Int32) : Prop := a = 0 ∧ r = w ∨ a = 1 ∧ r = g ∨ a = 2 ∧ r = x ∨ a = 3 ∧ r = y ∨ a = 4 ∧ r = n ∨ a = 5 ∧ r = m ∨ a = 6 ∧ r = t ∨ (a < 0 ∨ 6 < a) ∧ r.toInt = -1
theorem ru_0 {a : Int} {r w g x y n m t : Int32} (h : a = 0) (e : r = w) : ru a r w g x y n m t := Or.inl ⟨h, e⟩
theorem ru_1 {a : Int} {r w g x y n m t : Int32} (h : a = 1) (e : r = g) : ru a r w g x y n m t := Or.inr (Or.inl ⟨h, e⟩)
theorem ru_2 {a : Int} {r w g x y n m t : Int32} (h : a = 2) (e : r = x) : ru a r w g x y n m t := Or.inr (Or.inr (Or.inl ⟨h, e⟩))
theorem ru_3 {a : Int} {r w g x y n m t : Int32} (h : a = 3) (e : r = y) : ru a r w g x y n m t := Or.inr (Or.inr (Or.inr (Or.inl ⟨h, e⟩)))
theorem ru_4 {a : Int} {r w g x y n m t : Int32} (h : a = 4) (e : r = n) : ru a r w g x y n m t := Or.inr (Or.inr (Or.inr (Or.inr (Or.inl ⟨h, e⟩))))
theorem ru_5 {a : Int} {r w g x y n m t : Int32} (h : a = 5) (e : r = m) : ru a r w g x y n m t := Or.inr (Or.inr (Or.inr (Or.inr (Or.inr (Or.inl ⟨h, e⟩)))))
theorem ru_6 {a : Int} {r w g x y n m t : Int32} (h : a = 6) (e : r = t) : ru a r w g x y n m t := Or.inr (Or.inr (Or.inr (Or.inr (Or.inr (Or.inr (Or.inl ⟨h, e⟩))))))
theorem ru_n {a : Int} {r w g x y n m t : Int32} (h : a < 0 ∨ 6 < a) (e : r.toInt = -1) : ru a r w g x y n m t := Or.inr (Or.inr (Or.inr (Or.inr (Or.inr (Or.inr (Or.inr (⟨h, e⟩)))))))
def S_Rod_textY : List (Nat × Option Nat) := [(89, some 2), (89, some 3), (89, some 4), (89, some 5), (88, some 5), (88, some 6), (88, some 4), (91, none), (92, none), (69, none), (70, none), (71, none), (72, none), (73, none), (74, none), (76, none), (68, some 3), (68, some 4), (75, some 4), (77, none), (78, none), (79, none), (80, some 4), (0, some 3), (0, some 4), (1, none), (2, none), (3, none), (4, none), (5, none), (6, none), (7, some 4), (8, none), (9, none), (10, none), (11, none), (12, some 4), (13, none), (14, none), (15, none), (16, none), (89, some 1), (87, none)]
abbrev q_Rod_textY (h : Hp) (b : Int → Int) (s : Int32) (sZ : Int) : Option Value → Hp → Prop := pInt (fun r h' => Inv h' ∧ fr S_Rod_textY h h' ∧ ∃ (v : Int32) (vZ : Int), v.toInt = vZ ∧ h'.1 89 1 = v ∧ ∃ (e : Int32) (eZ : Int), e.toInt = eZ ∧ h'.1 88 6 = e ∧ (vZ = 0 ∧ ∃ n : Nat, x_tx b sZ r eZ n ∧ TK h h' eZ (x_st b n).2.1))
set_option maxRecDepth 100000 in
theorem c_Rod_textY (h : Hp) (b : Int → Int) (hI : Inv h) (s : Int32) (sZ : Int) (sE : s.toInt = sZ) (sK : h.1 89 1 = s) (hy0 : TP h 90 sZ b) : Ct y_Rod_text b_Rod_text 3 (some .int) 9 192 [.ref 85] h (q_Rod_textY h b s sZ) := by
  refine ct_ow R_Rod [some (.ref 85), none, none] rfl (by decide) rfl (Nat.le_of_ble_eq_true rfl) ?_
  have f0 : fr S_Rod_textY h h := fr_rf
  have g1 : 0 ≤ sZ ∧ sZ ≤ 160 := inv_at hI sE sK.symm rfl
  refine V_aload_n 0 d_Rod_text_0 rfl rfl ?_
  refine V_getR fa_Rod_30 sk_85 rfl d_Rod_text_1 ?_
  refine N_callVI [] [] cv_Rod_77 sk_88 rfl d_Rod_text_4 rfl (Nat.le_of_ble_eq_true rfl) (by decide) (by decide) (c_Reader_readAllX h b hI s sZ sE sK (TP_fr f0 (fun _ => rfl) hy0)) (fun z2 h3 z2Z z2E p4 => ?_)
  obtain ⟨hI5, fh3, o7, o7Z, o7E, o7K, p4⟩ := p4
  have f6 : fr S_Rod_textY h h3 := fr_call f0 fh3 rfl
  have Q8 : SC h h3 := SC_fr SC_rf fh3 rfl rfl
  obtain ⟨n, hX, hY⟩ := p4
  refine V_istore_n 1 [some (.ref 85), some (.int z2), none] d_Rod_text_7 rfl (by decide) rfl rfl ?_
  refine V_aload_n 0 d_Rod_text_8 rfl rfl ?_
  refine V_getR fa_Rod_38 sk_85 rfl d_Rod_text_9 ?_
  refine V_iconst 0 d_Rod_text_12 (by decide) ?_
  refine N_putI fp_Rod_67 sk_89 rfl d_Rod_text_13 (fun h9 eh9 => ?_)
  have hI10 : Inv h9 := inv_put (lo := 0) (hi := 160) hI5 eh9 rfl tc_0 (by (first | decide +kernel | omega))
  have f11 : fr S_Rod_textY h h9 := fr_put f6 eh9 rfl
  have Q12 : SC h h9 := SC_ne Q8 eh9 (by decide)
  refine V_iload_n 1 d_Rod_text_16 rfl rfl ?_
  refine V_if_lt 54 z2E d_Rod_text_17 (by decide) (fun c13 => ?_) (fun c13 => ?_)
  ·
    obtain ⟨he, hr⟩ := hY.resolve_left (fun q => absurd q.2.1 (by (first | decide +kernel | omega)))
    refine V_iload_n 1 d_Rod_text_54 rfl rfl ?_
    exact V_iret rfl d_Rod_text_55 ⟨z2, rfl, ⟨hI10, f11, 0, 0, tc_0, (kn_put eh9), o7, o7Z, o7E, (kn_ne eh9 o7K (by decide)), ⟨by (first | decide +kernel | omega), n, hX, Or.inr ⟨he, Q12⟩⟩⟩⟩
  ·
    obtain ⟨he, hr, hR0⟩ := hY.resolve_right (fun q => absurd q.2 (by (first | decide +kernel | omega)))
    have hR := RC_ne eh9 (by decide) hR0
    refine V_aload_n 0 d_Rod_text_20 rfl rfl ?_
    refine V_getR fa_Rod_12 sk_85 rfl d_Rod_text_21 ?_
    refine V_aload_n 0 d_Rod_text_24 rfl rfl ?_
    refine V_getR fa_Rod_30 sk_85 rfl d_Rod_text_25 ?_
    refine V_getR fa_Rod_81 sk_88 rfl d_Rod_text_28 ?_
    obtain ⟨z14, z14Z, z14E, z14e⟩ : ∃ (y : Int32) (Y : Int), y.toInt = Y ∧ y = h9.1 68 3 := ⟨_, _, rfl, rfl⟩
    obtain ⟨z15, z15Z, z15E, z15e⟩ : ∃ (y : Int32) (Y : Int), y.toInt = Y ∧ y = h9.1 68 4 := ⟨_, _, rfl, rfl⟩
    refine N_callVV [.ref 68] [] cv_Rod_84 sk_0 rfl d_Rod_text_31 rfl (Nat.le_of_ble_eq_true rfl) (by decide) (by decide) (c_County_copyX_0_4 h9 hI10 z14 z14Z z14E z14e.symm z15 z15Z z15E z15e.symm) (fun h17 p18 => ?_)
    obtain ⟨hI19, fh17, p18⟩ := p18
    have f20 : fr S_Rod_textY h h17 := fr_call f11 fh17 rfl
    have Q21 : TC h17 (x_st b n).2.1 := TC_of hR p18
    refine V_iconst 0 d_Rod_text_34 (by decide) ?_
    refine V_istore_n 2 [some (.ref 85), some (.int z2), some (.int 0)] d_Rod_text_35 rfl (by decide) rfl rfl ?_
    refine V_iload_n 2 d_Rod_text_36 rfl rfl ?_
    refine V_iconst 2 d_Rod_text_37 (by decide) ?_
    refine V_icmp_ge 54 tc_0 tc_2 d_Rod_text_38 (by decide) (fun c22 => ?_) (fun c22 => ?_)
    ·
      exact absurd c22 (by decide)
    ·
      refine V_aload_n 0 d_Rod_text_41 rfl rfl ?_
      refine V_getR fa_Rod_23 sk_85 rfl d_Rod_text_42 ?_
      refine V_iload_n 2 d_Rod_text_45 rfl rfl ?_
      refine V_iconst 0 d_Rod_text_46 (by decide) ?_
      refine N_zast sk_87 tc_0 (by (first | decide +kernel | omega)) d_Rod_text_47 (fun h23 eh23 => ?_)
      have hI24 : Inv h23 := inv_full hI19 eh23 rfl
      have f25 : fr S_Rod_textY h h23 := fr_put f20 eh23 rfl
      have Q26 : TC h23 (x_st b n).2.1 := TC_ne Q21 eh23 (by decide)
      refine V_iinc (v := 1) 2 [some (.ref 85), some (.int z2), some (.int 1)] d_Rod_text_48 rfl (by decide) (by decide) rfl rfl ?_
      refine V_goto 36 d_Rod_text_51 (by decide) ?_
      refine V_iload_n 2 d_Rod_text_36 rfl rfl ?_
      refine V_iconst 2 d_Rod_text_37 (by decide) ?_
      refine V_icmp_ge 54 tc_1 tc_2 d_Rod_text_38 (by decide) (fun c28 => ?_) (fun c28 => ?_)
      ·
        exact absurd c28 (by decide)
      ·
        refine V_aload_n 0 d_Rod_text_41 rfl rfl ?_
        refine V_getR fa_Rod_23 sk_85 rfl d_Rod_text_42 ?_
        refine V_iload_n 2 d_Rod_text_45 rfl rfl ?_
        refine V_iconst 0 d_Rod_text_46 (by decide) ?_
        refine N_zast sk_87 tc_1 (by (first | decide +kernel | omega)) d_Rod_text_47 (fun h29 eh29 => ?_)
        have hI30 : Inv h29 := inv_full hI24 eh29 rfl
        have f31 : fr S_Rod_textY h h29 := fr_put f25 eh29 rfl
        have Q32 : TC h29 (x_st b n).2.1 := TC_ne Q26 eh29 (by decide)
        refine V_iinc (v := 2) 2 [some (.ref 85), some (.int z2), some (.int 2)] d_Rod_text_48 rfl (by decide) (by decide) rfl rfl ?_
        refine V_goto 36 d_Rod_text_51 (by decide) ?_
        refine V_iload_n 2 d_Rod_text_36 rfl rfl ?_
        refine V_iconst 2 d_Rod_text_37 (by decide) ?_
        refine V_icmp_ge 54 tc_2 tc_2 d_Rod_text_38 (by decide) (fun c34 => ?_) (fun c34 => ?_)
        ·
          refine V_iload_n 1 d_Rod_text_54 rfl rfl ?_
          exact V_iret rfl d_Rod_text_55 ⟨z2, rfl, ⟨hI30, f31, 0, 0, tc_0, (kn_ne eh29 (kn_ne eh23 (kn_call fh17 (kn_put eh9) rfl) (by decide)) (by decide)), o7, o7Z, o7E, (kn_ne eh29 (kn_ne eh23 (kn_call fh17 (kn_ne eh9 o7K (by decide)) rfl) (by decide)) (by decide)), ⟨by (first | decide +kernel | omega), n, hX, Or.inl ⟨he, Q32, ((kn_nei eh29 (kn_put eh23) (by decide)).trans (by decide)), ((kn_put eh29).trans (by decide))⟩⟩⟩⟩
        ·
          exact absurd c34 (by decide)
abbrev q_Rod_ruleX (h : Hp) (a : Int32) (aZ : Int) (w : Int32) (wZ : Int) (g : Int32) (gZ : Int) (x : Int32) (xZ : Int) (y : Int32) (yZ : Int) (n : Int32) (nZ : Int) (m : Int32) (mZ : Int) (t : Int32) (tZ : Int) : Option Value → Hp → Prop := pInt (fun r h' => h = h' ∧ (ru aZ r w g x y n m t))
set_option maxRecDepth 100000 in
theorem c_Rod_ruleX (h : Hp) (hI : Inv h) (a : Int32) (aZ : Int) (aE : a.toInt = aZ) (w : Int32) (wZ : Int) (wE : w.toInt = wZ) (wK : h.1 1 0 = w) (g : Int32) (gZ : Int) (gE : g.toInt = gZ) (gK : h.1 1 1 = g) (x : Int32) (xZ : Int) (xE : x.toInt = xZ) (xK : h.1 1 2 = x) (y : Int32) (yZ : Int) (yE : y.toInt = yZ) (yK : h.1 1 3 = y) (n : Int32) (nZ : Int) (nE : n.toInt = nZ) (nK : h.1 0 3 = n) (m : Int32) (mZ : Int) (mE : m.toInt = mZ) (mK : h.1 0 4 = m) (t : Int32) (tZ : Int) (tE : t.toInt = tZ) (tK : h.1 7 4 = t) : Ct y_Rod_rule b_Rod_rule 2 (some .int) 0 0 [.ref 85, .int a] h (q_Rod_ruleX h a aZ w wZ g gZ x xZ y yZ n nZ m mZ t tZ) := by
  refine ct_ow R_Rod [some (.ref 85), some (.int a)] rfl (by decide) rfl (Nat.le_of_ble_eq_true rfl) ?_
  have f0 : fr [] h h := fr_rf
  have g1 : 2 ≤ wZ ∧ wZ ≤ 4 := inv_at hI wE wK.symm rfl
  have g2 : 2 ≤ gZ ∧ gZ ≤ 4 := inv_at hI gE gK.symm rfl
  have g3 : 0 ≤ tZ ∧ tZ ≤ 8 := inv_at hI tE tK.symm rfl
  refine V_iload_n 1 d_Rod_rule_0 rfl rfl ?_
  rcases (by (first | decide +kernel | omega) : (aZ < 0 ∨ 6 < aZ) ∨ aZ = 0 ∨ aZ = 1 ∨ aZ = 2 ∨ aZ = 3 ∨ aZ = 4 ∨ aZ = 5 ∨ aZ = 6) with c4 | c4 | c4 | c4 | c4 | c4 | c4 | c4
  ·
    refine V_tabOut 115 aE d_Rod_rule_1 c4 (by decide) ?_
    refine V_iconst (-1) d_Rod_rule_115 (by decide) ?_
    exact V_iret rfl d_Rod_rule_116 ⟨(-1), rfl, ⟨rfl, (ru_n (by (first | decide +kernel | omega)) tc_m1)⟩⟩
  ·
    refine V_tabIn 44 aE d_Rod_rule_1 (by (first | decide +kernel | omega)) (by (first | decide +kernel | omega)) (by rw [c4]; rfl) (by decide) ?_
    refine V_aload_n 0 d_Rod_rule_44 rfl rfl ?_
    refine V_getR fa_Rod_12 sk_85 rfl d_Rod_rule_45 ?_
    refine V_getR fa_Rod_91 sk_0 rfl d_Rod_rule_48 ?_
    refine N_getK fa_Rod_95 sk_1 rfl d_Rod_rule_51 wK ?_
    exact V_iret rfl d_Rod_rule_54 ⟨w, rfl, ⟨rfl, (ru_0 (by (first | decide +kernel | omega)) rfl)⟩⟩
  ·
    refine V_tabIn 55 aE d_Rod_rule_1 (by (first | decide +kernel | omega)) (by (first | decide +kernel | omega)) (by rw [c4]; rfl) (by decide) ?_
    refine V_aload_n 0 d_Rod_rule_55 rfl rfl ?_
    refine V_getR fa_Rod_12 sk_85 rfl d_Rod_rule_56 ?_
    refine V_getR fa_Rod_91 sk_0 rfl d_Rod_rule_59 ?_
    refine N_getK fa_Rod_100 sk_1 rfl d_Rod_rule_62 gK ?_
    exact V_iret rfl d_Rod_rule_65 ⟨g, rfl, ⟨rfl, (ru_1 (by (first | decide +kernel | omega)) rfl)⟩⟩
  ·
    refine V_tabIn 66 aE d_Rod_rule_1 (by (first | decide +kernel | omega)) (by (first | decide +kernel | omega)) (by rw [c4]; rfl) (by decide) ?_
    refine V_aload_n 0 d_Rod_rule_66 rfl rfl ?_
    refine V_getR fa_Rod_12 sk_85 rfl d_Rod_rule_67 ?_
    refine V_getR fa_Rod_91 sk_0 rfl d_Rod_rule_70 ?_
    refine N_getK fa_Rod_103 sk_1 rfl d_Rod_rule_73 xK ?_
    exact V_iret rfl d_Rod_rule_76 ⟨x, rfl, ⟨rfl, (ru_2 (by (first | decide +kernel | omega)) rfl)⟩⟩
  ·
    refine V_tabIn 77 aE d_Rod_rule_1 (by (first | decide +kernel | omega)) (by (first | decide +kernel | omega)) (by rw [c4]; rfl) (by decide) ?_
    refine V_aload_n 0 d_Rod_rule_77 rfl rfl ?_
    refine V_getR fa_Rod_12 sk_85 rfl d_Rod_rule_78 ?_
    refine V_getR fa_Rod_91 sk_0 rfl d_Rod_rule_81 ?_
    refine N_getK fa_Rod_106 sk_1 rfl d_Rod_rule_84 yK ?_
    exact V_iret rfl d_Rod_rule_87 ⟨y, rfl, ⟨rfl, (ru_3 (by (first | decide +kernel | omega)) rfl)⟩⟩
  ·
    refine V_tabIn 88 aE d_Rod_rule_1 (by (first | decide +kernel | omega)) (by (first | decide +kernel | omega)) (by rw [c4]; rfl) (by decide) ?_
    refine V_aload_n 0 d_Rod_rule_88 rfl rfl ?_
    refine V_getR fa_Rod_12 sk_85 rfl d_Rod_rule_89 ?_
    refine N_getK fa_Rod_109 sk_0 rfl d_Rod_rule_92 nK ?_
    exact V_iret rfl d_Rod_rule_95 ⟨n, rfl, ⟨rfl, (ru_4 (by (first | decide +kernel | omega)) rfl)⟩⟩
  ·
    refine V_tabIn 96 aE d_Rod_rule_1 (by (first | decide +kernel | omega)) (by (first | decide +kernel | omega)) (by rw [c4]; rfl) (by decide) ?_
    refine V_aload_n 0 d_Rod_rule_96 rfl rfl ?_
    refine V_getR fa_Rod_12 sk_85 rfl d_Rod_rule_97 ?_
    refine N_getK fa_Rod_112 sk_0 rfl d_Rod_rule_100 mK ?_
    exact V_iret rfl d_Rod_rule_103 ⟨m, rfl, ⟨rfl, (ru_5 (by (first | decide +kernel | omega)) rfl)⟩⟩
  ·
    refine V_tabIn 104 aE d_Rod_rule_1 (by (first | decide +kernel | omega)) (by (first | decide +kernel | omega)) (by rw [c4]; rfl) (by decide) ?_
    refine V_aload_n 0 d_Rod_rule_104 rfl rfl ?_
    refine V_getR fa_Rod_12 sk_85 rfl d_Rod_rule_105 ?_
    refine V_getR fa_Rod_115 sk_0 rfl d_Rod_rule_108 ?_
    refine N_getK fa_Rod_119 sk_7 rfl d_Rod_rule_111 tK ?_
    exact V_iret rfl d_Rod_rule_114 ⟨t, rfl, ⟨rfl, (ru_6 (by (first | decide +kernel | omega)) rfl)⟩⟩
abbrev q_Mod_ruleX (h : Hp) (a : Int32) (aZ : Int) (w : Int32) (wZ : Int) (g : Int32) (gZ : Int) (x : Int32) (xZ : Int) (y : Int32) (yZ : Int) (n : Int32) (nZ : Int) (m : Int32) (mZ : Int) (t : Int32) (tZ : Int) : Option Value → Hp → Prop := pInt (fun r h' => h = h' ∧ (ru aZ r w g x y n m t))
set_option maxRecDepth 100000 in
theorem c_Mod_ruleX (h : Hp) (hI : Inv h) (a : Int32) (aZ : Int) (aE : a.toInt = aZ) (w : Int32) (wZ : Int) (wE : w.toInt = wZ) (wK : h.1 116 2 = w) (g : Int32) (gZ : Int) (gE : g.toInt = gZ) (gK : h.1 116 3 = g) (x : Int32) (xZ : Int) (xE : x.toInt = xZ) (xK : h.1 116 4 = x) (y : Int32) (yZ : Int) (yE : y.toInt = yZ) (yK : h.1 116 5 = y) (n : Int32) (nZ : Int) (nE : n.toInt = nZ) (nK : h.1 117 84 = n) (m : Int32) (mZ : Int) (mE : m.toInt = mZ) (mK : h.1 117 85 = m) (t : Int32) (tZ : Int) (tE : t.toInt = tZ) (tK : h.1 117 86 = t) : Ct y_Mod_rule b_Mod_rule 2 (some .int) 0 0 [.ref 116, .int a] h (q_Mod_ruleX h a aZ w wZ g gZ x xZ y yZ n nZ m mZ t tZ) := by
  refine ct_ow R_Mod [some (.ref 116), some (.int a)] rfl (by decide) rfl (Nat.le_of_ble_eq_true rfl) ?_
  have f0 : fr [] h h := fr_rf
  have g1 : 2 ≤ wZ ∧ wZ ≤ 4 := inv_at hI wE wK.symm rfl
  have g2 : 2 ≤ gZ ∧ gZ ≤ 4 := inv_at hI gE gK.symm rfl
  refine V_iload_n 1 d_Mod_rule_0 rfl rfl ?_
  rcases (by (first | decide +kernel | omega) : (aZ < 0 ∨ 6 < aZ) ∨ aZ = 0 ∨ aZ = 1 ∨ aZ = 2 ∨ aZ = 3 ∨ aZ = 4 ∨ aZ = 5 ∨ aZ = 6) with c3 | c3 | c3 | c3 | c3 | c3 | c3 | c3
  ·
    refine V_tabOut 88 aE d_Mod_rule_1 c3 (by decide) ?_
    refine V_iconst (-1) d_Mod_rule_88 (by decide) ?_
    exact V_iret rfl d_Mod_rule_89 ⟨(-1), rfl, ⟨rfl, (ru_n (by (first | decide +kernel | omega)) tc_m1)⟩⟩
  ·
    refine V_tabIn 44 aE d_Mod_rule_1 (by (first | decide +kernel | omega)) (by (first | decide +kernel | omega)) (by rw [c3]; rfl) (by decide) ?_
    refine V_aload_n 0 d_Mod_rule_44 rfl rfl ?_
    refine N_getK fa_Mod_81 sk_116 rfl d_Mod_rule_45 wK ?_
    exact V_iret rfl d_Mod_rule_48 ⟨w, rfl, ⟨rfl, (ru_0 (by (first | decide +kernel | omega)) rfl)⟩⟩
  ·
    refine V_tabIn 49 aE d_Mod_rule_1 (by (first | decide +kernel | omega)) (by (first | decide +kernel | omega)) (by rw [c3]; rfl) (by decide) ?_
    refine V_aload_n 0 d_Mod_rule_49 rfl rfl ?_
    refine N_getK fa_Mod_84 sk_116 rfl d_Mod_rule_50 gK ?_
    exact V_iret rfl d_Mod_rule_53 ⟨g, rfl, ⟨rfl, (ru_1 (by (first | decide +kernel | omega)) rfl)⟩⟩
  ·
    refine V_tabIn 54 aE d_Mod_rule_1 (by (first | decide +kernel | omega)) (by (first | decide +kernel | omega)) (by rw [c3]; rfl) (by decide) ?_
    refine V_aload_n 0 d_Mod_rule_54 rfl rfl ?_
    refine N_getK fa_Mod_87 sk_116 rfl d_Mod_rule_55 xK ?_
    exact V_iret rfl d_Mod_rule_58 ⟨x, rfl, ⟨rfl, (ru_2 (by (first | decide +kernel | omega)) rfl)⟩⟩
  ·
    refine V_tabIn 59 aE d_Mod_rule_1 (by (first | decide +kernel | omega)) (by (first | decide +kernel | omega)) (by rw [c3]; rfl) (by decide) ?_
    refine V_aload_n 0 d_Mod_rule_59 rfl rfl ?_
    refine N_getK fa_Mod_90 sk_116 rfl d_Mod_rule_60 yK ?_
    exact V_iret rfl d_Mod_rule_63 ⟨y, rfl, ⟨rfl, (ru_3 (by (first | decide +kernel | omega)) rfl)⟩⟩
  ·
    refine V_tabIn 64 aE d_Mod_rule_1 (by (first | decide +kernel | omega)) (by (first | decide +kernel | omega)) (by rw [c3]; rfl) (by decide) ?_
    refine V_aload_n 0 d_Mod_rule_64 rfl rfl ?_
    refine V_getR fa_Mod_7 sk_116 rfl d_Mod_rule_65 ?_
    refine V_bipush 84 d_Mod_rule_68 (by decide) ?_
    refine N_ialdK sk_117 tc_84 (by (first | decide +kernel | omega)) d_Mod_rule_70 nK ?_
    exact V_iret rfl d_Mod_rule_71 ⟨n, rfl, ⟨rfl, (ru_4 (by (first | decide +kernel | omega)) rfl)⟩⟩
  ·
    refine V_tabIn 72 aE d_Mod_rule_1 (by (first | decide +kernel | omega)) (by (first | decide +kernel | omega)) (by rw [c3]; rfl) (by decide) ?_
    refine V_aload_n 0 d_Mod_rule_72 rfl rfl ?_
    refine V_getR fa_Mod_7 sk_116 rfl d_Mod_rule_73 ?_
    refine V_bipush 85 d_Mod_rule_76 (by decide) ?_
    refine N_ialdK sk_117 tc_85 (by (first | decide +kernel | omega)) d_Mod_rule_78 mK ?_
    exact V_iret rfl d_Mod_rule_79 ⟨m, rfl, ⟨rfl, (ru_5 (by (first | decide +kernel | omega)) rfl)⟩⟩
  ·
    refine V_tabIn 80 aE d_Mod_rule_1 (by (first | decide +kernel | omega)) (by (first | decide +kernel | omega)) (by rw [c3]; rfl) (by decide) ?_
    refine V_aload_n 0 d_Mod_rule_80 rfl rfl ?_
    refine V_getR fa_Mod_7 sk_116 rfl d_Mod_rule_81 ?_
    refine V_bipush 86 d_Mod_rule_84 (by decide) ?_
    refine N_ialdK sk_117 tc_86 (by (first | decide +kernel | omega)) d_Mod_rule_86 tK ?_
    exact V_iret rfl d_Mod_rule_87 ⟨t, rfl, ⟨rfl, (ru_6 (by (first | decide +kernel | omega)) rfl)⟩⟩
