def S_Ledger_addDebtX_4 : List (Nat × Option Nat) := [(75, some 4), (77, none), (78, none), (79, none)]
abbrev q_Ledger_addDebtX_4 (h : Hp) (a : Int32) (aZ : Int) (b : Int32) (bZ : Int) (v : Int32) (vZ : Int) (d : Int32) (dZ : Int) : Option Value → Hp → Prop := pVd (fun h' => Inv h' ∧ fr S_Ledger_addDebtX_4 h h' ∧ ∃ (u : Int32) (uZ : Int), u.toInt = uZ ∧ h'.1 75 4 = u ∧ (h' = pI (pI (pI (pI h 77 dZ.toNat a) 78 dZ.toNat b) 79 dZ.toNat v) 75 4 u ∧ uZ = dZ + 1))
set_option maxRecDepth 100000 in
theorem c_Ledger_addDebtX_4 (h : Hp) (hI : Inv h) (a : Int32) (aZ : Int) (aE : a.toInt = aZ) (b : Int32) (bZ : Int) (bE : b.toInt = bZ) (v : Int32) (vZ : Int) (vE : v.toInt = vZ) (d : Int32) (dZ : Int) (dE : d.toInt = dZ) (dK : h.1 75 4 = d) (hy0 : dZ < 8) : Ct y_Ledger_addDebt b_Ledger_addDebt 4 none 0 0 [.ref 75, .int a, .int b, .int v] h (q_Ledger_addDebtX_4 h a aZ b bZ v vZ d dZ) := by
  refine ct_ow R_Ledger [some (.ref 75), some (.int a), some (.int b), some (.int v)] rfl (by decide) rfl (Nat.le_of_ble_eq_true rfl) ?_
  have f0 : fr S_Ledger_addDebtX_4 h h := fr_rf
  have g1 : 0 ≤ dZ ∧ dZ ≤ 8 := inv_at hI dE dK.symm rfl
  refine V_aload_n 0 d_Ledger_addDebt_0 rfl rfl ?_
  refine N_getK fa_Ledger_30 sk_75 rfl d_Ledger_addDebt_1 dK ?_
  refine V_bipush 8 d_Ledger_addDebt_4 (by decide) ?_
  refine V_icmp_ge 49 dE tc_8 d_Ledger_addDebt_6 (by decide) (fun c2 => ?_) (fun c2 => ?_)
  ·
    exact V_vret rfl d_Ledger_addDebt_49 ⟨rfl, ⟨hI, f0, d, dZ, dE, dK, (by exfalso; omega)⟩⟩
  ·
    refine V_aload_n 0 d_Ledger_addDebt_9 rfl rfl ?_
    refine V_getR fa_Ledger_15 sk_75 rfl d_Ledger_addDebt_10 ?_
    refine V_aload_n 0 d_Ledger_addDebt_13 rfl rfl ?_
    refine N_getK fa_Ledger_30 sk_75 rfl d_Ledger_addDebt_14 dK ?_
    refine V_iload_n 1 d_Ledger_addDebt_17 rfl rfl ?_
    refine N_iast sk_77 dE (by (first | decide +kernel | omega)) d_Ledger_addDebt_18 (fun h3 eh3 => ?_)
    have hI4 : Inv h3 := inv_full hI eh3 rfl
    have f5 : fr S_Ledger_addDebtX_4 h h3 := fr_put f0 eh3 rfl
    refine V_aload_n 0 d_Ledger_addDebt_19 rfl rfl ?_
    refine V_getR fa_Ledger_18 sk_75 rfl d_Ledger_addDebt_20 ?_
    refine V_aload_n 0 d_Ledger_addDebt_23 rfl rfl ?_
    refine N_getK fa_Ledger_30 sk_75 rfl d_Ledger_addDebt_24 (kn_ne eh3 dK (by decide)) ?_
    refine V_iload_n 2 d_Ledger_addDebt_27 rfl rfl ?_
    refine N_iast sk_78 dE (by (first | decide +kernel | omega)) d_Ledger_addDebt_28 (fun h6 eh6 => ?_)
    have hI7 : Inv h6 := inv_full hI4 eh6 rfl
    have f8 : fr S_Ledger_addDebtX_4 h h6 := fr_put f5 eh6 rfl
    refine V_aload_n 0 d_Ledger_addDebt_29 rfl rfl ?_
    refine V_getR fa_Ledger_21 sk_75 rfl d_Ledger_addDebt_30 ?_
    refine V_aload_n 0 d_Ledger_addDebt_33 rfl rfl ?_
    refine N_getK fa_Ledger_30 sk_75 rfl d_Ledger_addDebt_34 (kn_ne eh6 (kn_ne eh3 dK (by decide)) (by decide)) ?_
    refine V_iload_n 3 d_Ledger_addDebt_37 rfl rfl ?_
    refine N_iast sk_79 dE (by (first | decide +kernel | omega)) d_Ledger_addDebt_38 (fun h9 eh9 => ?_)
    have hI10 : Inv h9 := inv_full hI7 eh9 rfl
    have f11 : fr S_Ledger_addDebtX_4 h h9 := fr_put f8 eh9 rfl
    refine V_aload_n 0 d_Ledger_addDebt_39 rfl rfl ?_
    refine V_dup d_Ledger_addDebt_40 rfl ?_
    refine N_getK fa_Ledger_30 sk_75 rfl d_Ledger_addDebt_41 (kn_ne eh9 (kn_ne eh6 (kn_ne eh3 dK (by decide)) (by decide)) (by decide)) ?_
    refine V_iconst 1 d_Ledger_addDebt_44 (by decide) ?_
    refine V_iadd dE tc_1 (by (first | decide +kernel | omega)) d_Ledger_addDebt_45 (fun z12 z12e z12E => ?_)
    refine N_putI fp_Ledger_30 sk_75 rfl d_Ledger_addDebt_46 (fun h13 eh13 => ?_)
    have hI14 : Inv h13 := inv_put (lo := 0) (hi := 8) hI10 eh13 rfl z12E (by (first | decide +kernel | omega))
    have f15 : fr S_Ledger_addDebtX_4 h h13 := fr_put f11 eh13 rfl
    exact V_vret rfl d_Ledger_addDebt_49 ⟨rfl, ⟨hI14, f15, z12, (dZ + 1), z12E, (kn_put eh13), ⟨by rw [eh13, eh9, eh6, eh3], by (first | decide +kernel | omega)⟩⟩⟩
def S_Reader_tellLineX_0 : List (Nat × Option Nat) := [(92, none), (69, none), (70, none), (71, none), (72, none), (73, none), (74, none), (76, none), (68, some 3), (68, some 4), (75, some 4), (77, none), (78, none), (79, none)]
abbrev q_Reader_tellLineX_0 (h : Hp) (T : Nat → Int → Int) (D : Nat → Int) (a : Int32) (aZ : Int) (b : Int32) (bZ : Int) (z : Int32) (zZ : Int) (d : Int32) (dZ : Int) : Option Value → Hp → Prop := pVd (fun h' => Inv h' ∧ fr S_Reader_tellLineX_0 h h' ∧ RC h' (x_upT T 0 0) (x_up (x_up D 144 aZ) 145 bZ))
set_option maxRecDepth 100000 in
theorem c_Reader_tellLineX_0 (h : Hp) (T : Nat → Int → Int) (D : Nat → Int) (hI : Inv h) (a : Int32) (aZ : Int) (aE : a.toInt = aZ) (aK : h.1 91 0 = a) (b : Int32) (bZ : Int) (bE : b.toInt = bZ) (bK : h.1 91 1 = b) (z : Int32) (zZ : Int) (zE : z.toInt = zZ) (zK : h.1 92 0 = z) (d : Int32) (dZ : Int) (dE : d.toInt = dZ) (dK : h.1 75 4 = d) (hy0 : RC h T D) (hy1 : 2 ≤ aZ ∧ aZ ≤ 4) (hy2 : 2 ≤ bZ ∧ bZ ≤ 4) : Ct y_Reader_tellLine b_Reader_tellLine 5 none 1 20 [.ref 88, .int 0] h (q_Reader_tellLineX_0 h T D a aZ b bZ z zZ d dZ) := by
  refine ct_ow R_Reader [some (.ref 88), some (.int 0), none, none, none] rfl (by decide) rfl (Nat.le_of_ble_eq_true rfl) ?_
  have f0 : fr S_Reader_tellLineX_0 h h := fr_rf
  have g1 : 0 ≤ dZ ∧ dZ ≤ 8 := inv_at hI dE dK.symm rfl
  refine V_aload_n 0 d_Reader_tellLine_0 rfl rfl ?_
  refine V_getR fa_Reader_21 sk_88 rfl d_Reader_tellLine_1 ?_
  refine V_getR fa_Reader_71 sk_68 rfl d_Reader_tellLine_4 ?_
  refine V_astore_n 2 [some (.ref 88), some (.int 0), some (.ref 69), none, none] d_Reader_tellLine_7 rfl (by decide) rfl rfl ?_
  refine V_aload_n 0 d_Reader_tellLine_8 rfl rfl ?_
  refine V_getR fa_Reader_25 sk_88 rfl d_Reader_tellLine_9 ?_
  refine V_iconst 0 d_Reader_tellLine_12 (by decide) ?_
  refine N_ialdK sk_91 tc_0 (by (first | decide +kernel | omega)) d_Reader_tellLine_13 aK ?_
  refine V_istore_n 3 [some (.ref 88), some (.int 0), some (.ref 69), some (.int a), none] d_Reader_tellLine_14 rfl (by decide) rfl rfl ?_
  refine V_aload_n 0 d_Reader_tellLine_15 rfl rfl ?_
  refine V_getR fa_Reader_25 sk_88 rfl d_Reader_tellLine_16 ?_
  refine V_iconst 1 d_Reader_tellLine_19 (by decide) ?_
  refine N_ialdK sk_91 tc_1 (by (first | decide +kernel | omega)) d_Reader_tellLine_20 bK ?_
  refine V_istore 4 [some (.ref 88), some (.int 0), some (.ref 69), some (.int a), some (.int b)] d_Reader_tellLine_21 (by decide) rfl rfl ?_
  refine V_aload_n 0 d_Reader_tellLine_23 rfl rfl ?_
  refine V_getR fa_Reader_29 sk_88 rfl d_Reader_tellLine_24 ?_
  refine V_iload_n 1 d_Reader_tellLine_27 rfl rfl ?_
  refine V_dup2 d_Reader_tellLine_28 rfl rfl ?_
  refine N_ialdK sk_92 tc_0 (by (first | decide +kernel | omega)) d_Reader_tellLine_29 zK ?_
  refine V_iload_n 1 d_Reader_tellLine_30 rfl rfl ?_
  refine N_callSI [.int 0] [.int z, .int 0, .ref 92] cs_Reader_131 d_Reader_tellLine_31 rfl (Nat.le_of_ble_eq_true rfl) (by decide) (by decide) (c_Reader_isOfOneX_0 h) (fun z5 h6 z5Z z5E p7 => ?_)
  obtain ⟨eh6, p7⟩ := p7
  subst eh6
  refine V_if_eq 43 z5E d_Reader_tellLine_34 (by decide) (fun c8 => ?_) (fun c8 => ?_)
  ·
    refine V_iconst 1 d_Reader_tellLine_43 (by decide) ?_
    refine N_ior d_Reader_tellLine_44 (fun z9 z9Z z9E z9e => ?_)
    refine N_iast sk_92 tc_0 (by (first | decide +kernel | omega)) d_Reader_tellLine_45 (fun h10 eh10 => ?_)
    have hI11 : Inv h10 := inv_full hI eh10 rfl
    have f12 : fr S_Reader_tellLineX_0 h h10 := fr_put f0 eh10 rfl
    refine V_iload_n 1 d_Reader_tellLine_46 rfl rfl ?_
    refine V_tabIn 96 tc_0 d_Reader_tellLine_47 (by decide) (by decide) rfl (by decide) ?_
    refine V_aload_n 2 d_Reader_tellLine_96 rfl rfl ?_
    refine V_iload_n 3 d_Reader_tellLine_97 rfl rfl ?_
    refine N_putI fp_Reader_134 sk_69 rfl d_Reader_tellLine_98 (fun h13 eh13 => ?_)
    have hI14 : Inv h13 := inv_put (lo := 2) (hi := 4) hI11 eh13 rfl aE (by (first | decide +kernel | omega))
    have f15 : fr S_Reader_tellLineX_0 h h13 := fr_put f12 eh13 rfl
    refine V_aload_n 2 d_Reader_tellLine_101 rfl rfl ?_
    refine V_iload d_Reader_tellLine_102 rfl ?_
    refine N_putI fp_Reader_137 sk_69 rfl d_Reader_tellLine_104 (fun h16 eh16 => ?_)
    have hI17 : Inv h16 := inv_put (lo := 2) (hi := 4) hI14 eh16 rfl bE (by (first | decide +kernel | omega))
    have f18 : fr S_Reader_tellLineX_0 h h16 := fr_put f15 eh16 rfl
    refine V_goto 227 d_Reader_tellLine_107 (by decide) ?_
    exact V_vret rfl d_Reader_tellLine_227 ⟨rfl, ⟨hI17, f18, ⟨RCt_ne (RCt_ne (RCt_once hy0.1 (by decide) eh10 (by assumption) rfl) eh13 (by decide)) eh16 (by decide), RCd_put (RCd_put (RCd_ne hy0.2.1 eh10 (by decide)) eh13 (show dof 69 0 = some 144 from rfl) aE (by (first | decide +kernel | omega))) eh16 (show dof 69 1 = some 145 from rfl) bE (by (first | decide +kernel | omega)), RCb_put (RCb_put (RCb_ne hy0.2.2 eh10 ⟨by decide, by decide, by decide⟩) eh13 ⟨by decide, by decide, by decide⟩ (by (first | decide +kernel | omega)) (fun j hj => by have q0 := RCd_debt hy0 dK dE; omega)) eh16 ⟨by decide, by decide, by decide⟩ (by (first | decide +kernel | omega)) (fun j hj => by have q0 := RCd_debt hy0 dK dE; have q1 := x_up86 (D := D) (k := 144) (v := aZ) (by decide); omega)⟩⟩⟩
  ·
    exact absurd c8 (by (first | decide +kernel | omega))
def S_Reader_tellLineX_1 : List (Nat × Option Nat) := [(92, none), (69, none), (70, none), (71, none), (72, none), (73, none), (74, none), (76, none), (68, some 3), (68, some 4), (75, some 4), (77, none), (78, none), (79, none)]
abbrev q_Reader_tellLineX_1 (h : Hp) (T : Nat → Int → Int) (D : Nat → Int) (a : Int32) (aZ : Int) (b : Int32) (bZ : Int) (z : Int32) (zZ : Int) (d : Int32) (dZ : Int) : Option Value → Hp → Prop := pVd (fun h' => Inv h' ∧ fr S_Reader_tellLineX_1 h h' ∧ RC h' (x_upT T 1 aZ) (x_up D aZ bZ))
set_option maxRecDepth 100000 in
theorem c_Reader_tellLineX_1 (h : Hp) (T : Nat → Int → Int) (D : Nat → Int) (hI : Inv h) (a : Int32) (aZ : Int) (aE : a.toInt = aZ) (aK : h.1 91 0 = a) (b : Int32) (bZ : Int) (bE : b.toInt = bZ) (bK : h.1 91 1 = b) (z : Int32) (zZ : Int) (zE : z.toInt = zZ) (zK : h.1 92 1 = z) (d : Int32) (dZ : Int) (dE : d.toInt = dZ) (dK : h.1 75 4 = d) (hy0 : RC h T D) (hy1 : 0 ≤ aZ ∧ aZ ≤ 15) (hy2 : 1 ≤ bZ ∧ bZ ≤ 9) : Ct y_Reader_tellLine b_Reader_tellLine 5 none 1 20 [.ref 88, .int 1] h (q_Reader_tellLineX_1 h T D a aZ b bZ z zZ d dZ) := by
  refine ct_ow R_Reader [some (.ref 88), some (.int 1), none, none, none] rfl (by decide) rfl (Nat.le_of_ble_eq_true rfl) ?_
  have f0 : fr S_Reader_tellLineX_1 h h := fr_rf
  have g1 : 0 ≤ dZ ∧ dZ ≤ 8 := inv_at hI dE dK.symm rfl
  refine V_aload_n 0 d_Reader_tellLine_0 rfl rfl ?_
  refine V_getR fa_Reader_21 sk_88 rfl d_Reader_tellLine_1 ?_
  refine V_getR fa_Reader_71 sk_68 rfl d_Reader_tellLine_4 ?_
  refine V_astore_n 2 [some (.ref 88), some (.int 1), some (.ref 69), none, none] d_Reader_tellLine_7 rfl (by decide) rfl rfl ?_
  refine V_aload_n 0 d_Reader_tellLine_8 rfl rfl ?_
  refine V_getR fa_Reader_25 sk_88 rfl d_Reader_tellLine_9 ?_
  refine V_iconst 0 d_Reader_tellLine_12 (by decide) ?_
  refine N_ialdK sk_91 tc_0 (by (first | decide +kernel | omega)) d_Reader_tellLine_13 aK ?_
  refine V_istore_n 3 [some (.ref 88), some (.int 1), some (.ref 69), some (.int a), none] d_Reader_tellLine_14 rfl (by decide) rfl rfl ?_
  refine V_aload_n 0 d_Reader_tellLine_15 rfl rfl ?_
  refine V_getR fa_Reader_25 sk_88 rfl d_Reader_tellLine_16 ?_
  refine V_iconst 1 d_Reader_tellLine_19 (by decide) ?_
  refine N_ialdK sk_91 tc_1 (by (first | decide +kernel | omega)) d_Reader_tellLine_20 bK ?_
  refine V_istore 4 [some (.ref 88), some (.int 1), some (.ref 69), some (.int a), some (.int b)] d_Reader_tellLine_21 (by decide) rfl rfl ?_
  refine V_aload_n 0 d_Reader_tellLine_23 rfl rfl ?_
  refine V_getR fa_Reader_29 sk_88 rfl d_Reader_tellLine_24 ?_
  refine V_iload_n 1 d_Reader_tellLine_27 rfl rfl ?_
  refine V_dup2 d_Reader_tellLine_28 rfl rfl ?_
  refine N_ialdK sk_92 tc_1 (by (first | decide +kernel | omega)) d_Reader_tellLine_29 zK ?_
  refine V_iload_n 1 d_Reader_tellLine_30 rfl rfl ?_
  refine N_callSI [.int 1] [.int z, .int 1, .ref 92] cs_Reader_131 d_Reader_tellLine_31 rfl (Nat.le_of_ble_eq_true rfl) (by decide) (by decide) (c_Reader_isOfOneX_1 h) (fun z5 h6 z5Z z5E p7 => ?_)
  obtain ⟨eh6, p7⟩ := p7
  subst eh6
  refine V_if_eq 43 z5E d_Reader_tellLine_34 (by decide) (fun c8 => ?_) (fun c8 => ?_)
  ·
    exact absurd c8 (by (first | decide +kernel | omega))
  ·
    refine V_iconst 1 d_Reader_tellLine_37 (by decide) ?_
    refine V_iload_n 3 d_Reader_tellLine_38 rfl rfl ?_
    refine N_ishl d_Reader_tellLine_39 (fun z9 z9Z z9E z9e => ?_)
    refine V_goto 44 d_Reader_tellLine_40 (by decide) ?_
    refine N_ior d_Reader_tellLine_44 (fun z10 z10Z z10E z10e => ?_)
    refine N_iast sk_92 tc_1 (by (first | decide +kernel | omega)) d_Reader_tellLine_45 (fun h11 eh11 => ?_)
    have hI12 : Inv h11 := inv_full hI eh11 rfl
    have f13 : fr S_Reader_tellLineX_1 h h11 := fr_put f0 eh11 rfl
    refine V_iload_n 1 d_Reader_tellLine_46 rfl rfl ?_
    refine V_tabIn 110 tc_1 d_Reader_tellLine_47 (by decide) (by decide) rfl (by decide) ?_
    refine V_aload_n 2 d_Reader_tellLine_110 rfl rfl ?_
    refine V_getR fa_Reader_140 sk_69 rfl d_Reader_tellLine_111 ?_
    refine V_iload_n 3 d_Reader_tellLine_114 rfl rfl ?_
    refine V_iload d_Reader_tellLine_115 rfl ?_
    refine N_iast sk_70 aE (by (first | decide +kernel | omega)) d_Reader_tellLine_117 (fun h14 eh14 => ?_)
    have hI15 : Inv h14 := inv_full hI12 eh14 rfl
    have f16 : fr S_Reader_tellLineX_1 h h14 := fr_put f13 eh14 rfl
    refine V_goto 227 d_Reader_tellLine_118 (by decide) ?_
    exact V_vret rfl d_Reader_tellLine_227 ⟨rfl, ⟨hI15, f16, ⟨RCt_ne (RCt_one hy0.1 ⟨by decide, by decide⟩ eh11 zK (by (first | decide +kernel | omega)) aE (by assumption) (by assumption) rfl) eh14 (by decide), RCd_put (RCd_ne hy0.2.1 eh11 (by decide)) eh14 (dof_row (k := 70) (n := 16) (o := 0) (A := aZ) (by decide) (by (first | decide +kernel | omega)) rfl) bE (by (first | decide +kernel | omega)), RCb_put (RCb_ne hy0.2.2 eh11 ⟨by decide, by decide, by decide⟩) eh14 ⟨by decide, by decide, by decide⟩ (by (first | decide +kernel | omega)) (fun j hj => by have q0 := RCd_debt hy0 dK dE; omega)⟩⟩⟩
def S_Reader_tellLineX_2 : List (Nat × Option Nat) := [(92, none), (69, none), (70, none), (71, none), (72, none), (73, none), (74, none), (76, none), (68, some 3), (68, some 4), (75, some 4), (77, none), (78, none), (79, none)]
abbrev q_Reader_tellLineX_2 (h : Hp) (T : Nat → Int → Int) (D : Nat → Int) (a : Int32) (aZ : Int) (z : Int32) (zZ : Int) (d : Int32) (dZ : Int) : Option Value → Hp → Prop := pVd (fun h' => Inv h' ∧ fr S_Reader_tellLineX_2 h h' ∧ RC h' (x_upT T 2 aZ) (x_up D (16 + aZ) 1))
set_option maxRecDepth 100000 in
theorem c_Reader_tellLineX_2 (h : Hp) (T : Nat → Int → Int) (D : Nat → Int) (hI : Inv h) (a : Int32) (aZ : Int) (aE : a.toInt = aZ) (aK : h.1 91 0 = a) (z : Int32) (zZ : Int) (zE : z.toInt = zZ) (zK : h.1 92 2 = z) (d : Int32) (dZ : Int) (dE : d.toInt = dZ) (dK : h.1 75 4 = d) (hy0 : RC h T D) (hy1 : 0 ≤ aZ ∧ aZ ≤ 15) : Ct y_Reader_tellLine b_Reader_tellLine 5 none 1 20 [.ref 88, .int 2] h (q_Reader_tellLineX_2 h T D a aZ z zZ d dZ) := by
  refine ct_ow R_Reader [some (.ref 88), some (.int 2), none, none, none] rfl (by decide) rfl (Nat.le_of_ble_eq_true rfl) ?_
  have f0 : fr S_Reader_tellLineX_2 h h := fr_rf
  have g1 : 0 ≤ dZ ∧ dZ ≤ 8 := inv_at hI dE dK.symm rfl
  refine V_aload_n 0 d_Reader_tellLine_0 rfl rfl ?_
  refine V_getR fa_Reader_21 sk_88 rfl d_Reader_tellLine_1 ?_
  refine V_getR fa_Reader_71 sk_68 rfl d_Reader_tellLine_4 ?_
  refine V_astore_n 2 [some (.ref 88), some (.int 2), some (.ref 69), none, none] d_Reader_tellLine_7 rfl (by decide) rfl rfl ?_
  refine V_aload_n 0 d_Reader_tellLine_8 rfl rfl ?_
  refine V_getR fa_Reader_25 sk_88 rfl d_Reader_tellLine_9 ?_
  refine V_iconst 0 d_Reader_tellLine_12 (by decide) ?_
  refine N_ialdK sk_91 tc_0 (by (first | decide +kernel | omega)) d_Reader_tellLine_13 aK ?_
  refine V_istore_n 3 [some (.ref 88), some (.int 2), some (.ref 69), some (.int a), none] d_Reader_tellLine_14 rfl (by decide) rfl rfl ?_
  refine V_aload_n 0 d_Reader_tellLine_15 rfl rfl ?_
  refine V_getR fa_Reader_25 sk_88 rfl d_Reader_tellLine_16 ?_
  refine V_iconst 1 d_Reader_tellLine_19 (by decide) ?_
  refine N_iald sk_91 tc_1 (by (first | decide +kernel | omega)) d_Reader_tellLine_20 (fun z3 z3Z z3E z3e => ?_)
  refine V_istore 4 [some (.ref 88), some (.int 2), some (.ref 69), some (.int a), some (.int z3)] d_Reader_tellLine_21 (by decide) rfl rfl ?_
  refine V_aload_n 0 d_Reader_tellLine_23 rfl rfl ?_
  refine V_getR fa_Reader_29 sk_88 rfl d_Reader_tellLine_24 ?_
  refine V_iload_n 1 d_Reader_tellLine_27 rfl rfl ?_
  refine V_dup2 d_Reader_tellLine_28 rfl rfl ?_
  refine N_ialdK sk_92 tc_2 (by (first | decide +kernel | omega)) d_Reader_tellLine_29 zK ?_
  refine V_iload_n 1 d_Reader_tellLine_30 rfl rfl ?_
  refine N_callSI [.int 2] [.int z, .int 2, .ref 92] cs_Reader_131 d_Reader_tellLine_31 rfl (Nat.le_of_ble_eq_true rfl) (by decide) (by decide) (c_Reader_isOfOneX_2 h) (fun z5 h6 z5Z z5E p7 => ?_)
  obtain ⟨eh6, p7⟩ := p7
  subst eh6
  refine V_if_eq 43 z5E d_Reader_tellLine_34 (by decide) (fun c8 => ?_) (fun c8 => ?_)
  ·
    exact absurd c8 (by (first | decide +kernel | omega))
  ·
    refine V_iconst 1 d_Reader_tellLine_37 (by decide) ?_
    refine V_iload_n 3 d_Reader_tellLine_38 rfl rfl ?_
    refine N_ishl d_Reader_tellLine_39 (fun z9 z9Z z9E z9e => ?_)
    refine V_goto 44 d_Reader_tellLine_40 (by decide) ?_
    refine N_ior d_Reader_tellLine_44 (fun z10 z10Z z10E z10e => ?_)
    refine N_iast sk_92 tc_2 (by (first | decide +kernel | omega)) d_Reader_tellLine_45 (fun h11 eh11 => ?_)
    have hI12 : Inv h11 := inv_full hI eh11 rfl
    have f13 : fr S_Reader_tellLineX_2 h h11 := fr_put f0 eh11 rfl
    refine V_iload_n 1 d_Reader_tellLine_46 rfl rfl ?_
    refine V_tabIn 121 tc_2 d_Reader_tellLine_47 (by decide) (by decide) rfl (by decide) ?_
    refine V_aload_n 2 d_Reader_tellLine_121 rfl rfl ?_
    refine V_getR fa_Reader_143 sk_69 rfl d_Reader_tellLine_122 ?_
    refine V_iload_n 3 d_Reader_tellLine_125 rfl rfl ?_
    refine V_iconst 1 d_Reader_tellLine_126 (by decide) ?_
    refine N_iast sk_71 aE (by (first | decide +kernel | omega)) d_Reader_tellLine_127 (fun h14 eh14 => ?_)
    have hI15 : Inv h14 := inv_full hI12 eh14 rfl
    have f16 : fr S_Reader_tellLineX_2 h h14 := fr_put f13 eh14 rfl
    refine V_goto 227 d_Reader_tellLine_128 (by decide) ?_
    exact V_vret rfl d_Reader_tellLine_227 ⟨rfl, ⟨hI15, f16, ⟨RCt_ne (RCt_one hy0.1 ⟨by decide, by decide⟩ eh11 zK (by (first | decide +kernel | omega)) aE (by assumption) (by assumption) rfl) eh14 (by decide), RCd_put (RCd_ne hy0.2.1 eh11 (by decide)) eh14 (dof_row (k := 71) (n := 16) (o := 16) (A := aZ) (by decide) (by (first | decide +kernel | omega)) rfl) rfl (by (first | decide +kernel | omega)), RCb_put (RCb_ne hy0.2.2 eh11 ⟨by decide, by decide, by decide⟩) eh14 ⟨by decide, by decide, by decide⟩ (by (first | decide +kernel | omega)) (fun j hj => by have q0 := RCd_debt hy0 dK dE; omega)⟩⟩⟩
def S_Reader_tellLineX_3 : List (Nat × Option Nat) := [(92, none), (69, none), (70, none), (71, none), (72, none), (73, none), (74, none), (76, none), (68, some 3), (68, some 4), (75, some 4), (77, none), (78, none), (79, none)]
abbrev q_Reader_tellLineX_3 (h : Hp) (T : Nat → Int → Int) (D : Nat → Int) (a : Int32) (aZ : Int) (b : Int32) (bZ : Int) (z : Int32) (zZ : Int) (d : Int32) (dZ : Int) : Option Value → Hp → Prop := pVd (fun h' => Inv h' ∧ fr S_Reader_tellLineX_3 h h' ∧ RC h' (x_upT T 3 aZ) (x_up D (32 + aZ) bZ))
set_option maxRecDepth 100000 in
theorem c_Reader_tellLineX_3 (h : Hp) (T : Nat → Int → Int) (D : Nat → Int) (hI : Inv h) (a : Int32) (aZ : Int) (aE : a.toInt = aZ) (aK : h.1 91 0 = a) (b : Int32) (bZ : Int) (bE : b.toInt = bZ) (bK : h.1 91 1 = b) (z : Int32) (zZ : Int) (zE : z.toInt = zZ) (zK : h.1 92 3 = z) (d : Int32) (dZ : Int) (dE : d.toInt = dZ) (dK : h.1 75 4 = d) (hy0 : RC h T D) (hy1 : 0 ≤ aZ ∧ aZ ≤ 15) (hy2 : 0 ≤ bZ ∧ bZ ≤ 10) : Ct y_Reader_tellLine b_Reader_tellLine 5 none 1 20 [.ref 88, .int 3] h (q_Reader_tellLineX_3 h T D a aZ b bZ z zZ d dZ) := by
  refine ct_ow R_Reader [some (.ref 88), some (.int 3), none, none, none] rfl (by decide) rfl (Nat.le_of_ble_eq_true rfl) ?_
  have f0 : fr S_Reader_tellLineX_3 h h := fr_rf
  have g1 : 0 ≤ dZ ∧ dZ ≤ 8 := inv_at hI dE dK.symm rfl
  refine V_aload_n 0 d_Reader_tellLine_0 rfl rfl ?_
  refine V_getR fa_Reader_21 sk_88 rfl d_Reader_tellLine_1 ?_
  refine V_getR fa_Reader_71 sk_68 rfl d_Reader_tellLine_4 ?_
  refine V_astore_n 2 [some (.ref 88), some (.int 3), some (.ref 69), none, none] d_Reader_tellLine_7 rfl (by decide) rfl rfl ?_
  refine V_aload_n 0 d_Reader_tellLine_8 rfl rfl ?_
  refine V_getR fa_Reader_25 sk_88 rfl d_Reader_tellLine_9 ?_
  refine V_iconst 0 d_Reader_tellLine_12 (by decide) ?_
  refine N_ialdK sk_91 tc_0 (by (first | decide +kernel | omega)) d_Reader_tellLine_13 aK ?_
  refine V_istore_n 3 [some (.ref 88), some (.int 3), some (.ref 69), some (.int a), none] d_Reader_tellLine_14 rfl (by decide) rfl rfl ?_
  refine V_aload_n 0 d_Reader_tellLine_15 rfl rfl ?_
  refine V_getR fa_Reader_25 sk_88 rfl d_Reader_tellLine_16 ?_
  refine V_iconst 1 d_Reader_tellLine_19 (by decide) ?_
  refine N_ialdK sk_91 tc_1 (by (first | decide +kernel | omega)) d_Reader_tellLine_20 bK ?_
  refine V_istore 4 [some (.ref 88), some (.int 3), some (.ref 69), some (.int a), some (.int b)] d_Reader_tellLine_21 (by decide) rfl rfl ?_
  refine V_aload_n 0 d_Reader_tellLine_23 rfl rfl ?_
  refine V_getR fa_Reader_29 sk_88 rfl d_Reader_tellLine_24 ?_
  refine V_iload_n 1 d_Reader_tellLine_27 rfl rfl ?_
  refine V_dup2 d_Reader_tellLine_28 rfl rfl ?_
  refine N_ialdK sk_92 tc_3 (by (first | decide +kernel | omega)) d_Reader_tellLine_29 zK ?_
  refine V_iload_n 1 d_Reader_tellLine_30 rfl rfl ?_
  refine N_callSI [.int 3] [.int z, .int 3, .ref 92] cs_Reader_131 d_Reader_tellLine_31 rfl (Nat.le_of_ble_eq_true rfl) (by decide) (by decide) (c_Reader_isOfOneX_3 h) (fun z5 h6 z5Z z5E p7 => ?_)
  obtain ⟨eh6, p7⟩ := p7
  subst eh6
  refine V_if_eq 43 z5E d_Reader_tellLine_34 (by decide) (fun c8 => ?_) (fun c8 => ?_)
  ·
    exact absurd c8 (by (first | decide +kernel | omega))
  ·
    refine V_iconst 1 d_Reader_tellLine_37 (by decide) ?_
    refine V_iload_n 3 d_Reader_tellLine_38 rfl rfl ?_
    refine N_ishl d_Reader_tellLine_39 (fun z9 z9Z z9E z9e => ?_)
    refine V_goto 44 d_Reader_tellLine_40 (by decide) ?_
    refine N_ior d_Reader_tellLine_44 (fun z10 z10Z z10E z10e => ?_)
    refine N_iast sk_92 tc_3 (by (first | decide +kernel | omega)) d_Reader_tellLine_45 (fun h11 eh11 => ?_)
    have hI12 : Inv h11 := inv_full hI eh11 rfl
    have f13 : fr S_Reader_tellLineX_3 h h11 := fr_put f0 eh11 rfl
    refine V_iload_n 1 d_Reader_tellLine_46 rfl rfl ?_
    refine V_tabIn 131 tc_3 d_Reader_tellLine_47 (by decide) (by decide) rfl (by decide) ?_
    refine V_aload_n 2 d_Reader_tellLine_131 rfl rfl ?_
    refine V_getR fa_Reader_146 sk_69 rfl d_Reader_tellLine_132 ?_
    refine V_iload_n 3 d_Reader_tellLine_135 rfl rfl ?_
    refine V_iload d_Reader_tellLine_136 rfl ?_
    refine N_iast sk_72 aE (by (first | decide +kernel | omega)) d_Reader_tellLine_138 (fun h14 eh14 => ?_)
    have hI15 : Inv h14 := inv_full hI12 eh14 rfl
    have f16 : fr S_Reader_tellLineX_3 h h14 := fr_put f13 eh14 rfl
    refine V_goto 227 d_Reader_tellLine_139 (by decide) ?_
    exact V_vret rfl d_Reader_tellLine_227 ⟨rfl, ⟨hI15, f16, ⟨RCt_ne (RCt_one hy0.1 ⟨by decide, by decide⟩ eh11 zK (by (first | decide +kernel | omega)) aE (by assumption) (by assumption) rfl) eh14 (by decide), RCd_put (RCd_ne hy0.2.1 eh11 (by decide)) eh14 (dof_row (k := 72) (n := 16) (o := 32) (A := aZ) (by decide) (by (first | decide +kernel | omega)) rfl) bE (by (first | decide +kernel | omega)), RCb_put (RCb_ne hy0.2.2 eh11 ⟨by decide, by decide, by decide⟩) eh14 ⟨by decide, by decide, by decide⟩ (by (first | decide +kernel | omega)) (fun j hj => by have q0 := RCd_debt hy0 dK dE; omega)⟩⟩⟩
def S_Reader_tellLineX_4 : List (Nat × Option Nat) := [(92, none), (69, none), (70, none), (71, none), (72, none), (73, none), (74, none), (76, none), (68, some 3), (68, some 4), (75, some 4), (77, none), (78, none), (79, none)]
abbrev q_Reader_tellLineX_4 (h : Hp) (T : Nat → Int → Int) (D : Nat → Int) (a : Int32) (aZ : Int) (b : Int32) (bZ : Int) (z : Int32) (zZ : Int) (d : Int32) (dZ : Int) : Option Value → Hp → Prop := pVd (fun h' => Inv h' ∧ fr S_Reader_tellLineX_4 h h' ∧ RC h' (x_upT T 4 aZ) (x_up D (48 + aZ) bZ))
set_option maxRecDepth 100000 in
theorem c_Reader_tellLineX_4 (h : Hp) (T : Nat → Int → Int) (D : Nat → Int) (hI : Inv h) (a : Int32) (aZ : Int) (aE : a.toInt = aZ) (aK : h.1 91 0 = a) (b : Int32) (bZ : Int) (bE : b.toInt = bZ) (bK : h.1 91 1 = b) (z : Int32) (zZ : Int) (zE : z.toInt = zZ) (zK : h.1 92 4 = z) (d : Int32) (dZ : Int) (dE : d.toInt = dZ) (dK : h.1 75 4 = d) (hy0 : RC h T D) (hy1 : 0 ≤ aZ ∧ aZ ≤ 15) (hy2 : 0 ≤ bZ ∧ bZ ≤ 3) : Ct y_Reader_tellLine b_Reader_tellLine 5 none 1 20 [.ref 88, .int 4] h (q_Reader_tellLineX_4 h T D a aZ b bZ z zZ d dZ) := by
  refine ct_ow R_Reader [some (.ref 88), some (.int 4), none, none, none] rfl (by decide) rfl (Nat.le_of_ble_eq_true rfl) ?_
  have f0 : fr S_Reader_tellLineX_4 h h := fr_rf
  have g1 : 0 ≤ dZ ∧ dZ ≤ 8 := inv_at hI dE dK.symm rfl
  refine V_aload_n 0 d_Reader_tellLine_0 rfl rfl ?_
  refine V_getR fa_Reader_21 sk_88 rfl d_Reader_tellLine_1 ?_
  refine V_getR fa_Reader_71 sk_68 rfl d_Reader_tellLine_4 ?_
  refine V_astore_n 2 [some (.ref 88), some (.int 4), some (.ref 69), none, none] d_Reader_tellLine_7 rfl (by decide) rfl rfl ?_
  refine V_aload_n 0 d_Reader_tellLine_8 rfl rfl ?_
  refine V_getR fa_Reader_25 sk_88 rfl d_Reader_tellLine_9 ?_
  refine V_iconst 0 d_Reader_tellLine_12 (by decide) ?_
  refine N_ialdK sk_91 tc_0 (by (first | decide +kernel | omega)) d_Reader_tellLine_13 aK ?_
  refine V_istore_n 3 [some (.ref 88), some (.int 4), some (.ref 69), some (.int a), none] d_Reader_tellLine_14 rfl (by decide) rfl rfl ?_
  refine V_aload_n 0 d_Reader_tellLine_15 rfl rfl ?_
  refine V_getR fa_Reader_25 sk_88 rfl d_Reader_tellLine_16 ?_
  refine V_iconst 1 d_Reader_tellLine_19 (by decide) ?_
  refine N_ialdK sk_91 tc_1 (by (first | decide +kernel | omega)) d_Reader_tellLine_20 bK ?_
  refine V_istore 4 [some (.ref 88), some (.int 4), some (.ref 69), some (.int a), some (.int b)] d_Reader_tellLine_21 (by decide) rfl rfl ?_
  refine V_aload_n 0 d_Reader_tellLine_23 rfl rfl ?_
  refine V_getR fa_Reader_29 sk_88 rfl d_Reader_tellLine_24 ?_
  refine V_iload_n 1 d_Reader_tellLine_27 rfl rfl ?_
  refine V_dup2 d_Reader_tellLine_28 rfl rfl ?_
  refine N_ialdK sk_92 tc_4 (by (first | decide +kernel | omega)) d_Reader_tellLine_29 zK ?_
  refine V_iload_n 1 d_Reader_tellLine_30 rfl rfl ?_
  refine N_callSI [.int 4] [.int z, .int 4, .ref 92] cs_Reader_131 d_Reader_tellLine_31 rfl (Nat.le_of_ble_eq_true rfl) (by decide) (by decide) (c_Reader_isOfOneX_4 h) (fun z5 h6 z5Z z5E p7 => ?_)
  obtain ⟨eh6, p7⟩ := p7
  subst eh6
  refine V_if_eq 43 z5E d_Reader_tellLine_34 (by decide) (fun c8 => ?_) (fun c8 => ?_)
  ·
    exact absurd c8 (by (first | decide +kernel | omega))
  ·
    refine V_iconst 1 d_Reader_tellLine_37 (by decide) ?_
    refine V_iload_n 3 d_Reader_tellLine_38 rfl rfl ?_
    refine N_ishl d_Reader_tellLine_39 (fun z9 z9Z z9E z9e => ?_)
    refine V_goto 44 d_Reader_tellLine_40 (by decide) ?_
    refine N_ior d_Reader_tellLine_44 (fun z10 z10Z z10E z10e => ?_)
    refine N_iast sk_92 tc_4 (by (first | decide +kernel | omega)) d_Reader_tellLine_45 (fun h11 eh11 => ?_)
    have hI12 : Inv h11 := inv_full hI eh11 rfl
    have f13 : fr S_Reader_tellLineX_4 h h11 := fr_put f0 eh11 rfl
    refine V_iload_n 1 d_Reader_tellLine_46 rfl rfl ?_
    refine V_tabIn 142 tc_4 d_Reader_tellLine_47 (by decide) (by decide) rfl (by decide) ?_
    refine V_aload_n 2 d_Reader_tellLine_142 rfl rfl ?_
    refine V_getR fa_Reader_149 sk_69 rfl d_Reader_tellLine_143 ?_
    refine V_iload_n 3 d_Reader_tellLine_146 rfl rfl ?_
    refine V_iload d_Reader_tellLine_147 rfl ?_
    refine N_iast sk_73 aE (by (first | decide +kernel | omega)) d_Reader_tellLine_149 (fun h14 eh14 => ?_)
    have hI15 : Inv h14 := inv_full hI12 eh14 rfl
    have f16 : fr S_Reader_tellLineX_4 h h14 := fr_put f13 eh14 rfl
    refine V_goto 227 d_Reader_tellLine_150 (by decide) ?_
    exact V_vret rfl d_Reader_tellLine_227 ⟨rfl, ⟨hI15, f16, ⟨RCt_ne (RCt_one hy0.1 ⟨by decide, by decide⟩ eh11 zK (by (first | decide +kernel | omega)) aE (by assumption) (by assumption) rfl) eh14 (by decide), RCd_put (RCd_ne hy0.2.1 eh11 (by decide)) eh14 (dof_row (k := 73) (n := 16) (o := 48) (A := aZ) (by decide) (by (first | decide +kernel | omega)) rfl) bE (by (first | decide +kernel | omega)), RCb_put (RCb_ne hy0.2.2 eh11 ⟨by decide, by decide, by decide⟩) eh14 ⟨by decide, by decide, by decide⟩ (by (first | decide +kernel | omega)) (fun j hj => by have q0 := RCd_debt hy0 dK dE; omega)⟩⟩⟩
def S_Reader_tellLineX_5 : List (Nat × Option Nat) := [(92, none), (69, none), (70, none), (71, none), (72, none), (73, none), (74, none), (76, none), (68, some 3), (68, some 4), (75, some 4), (77, none), (78, none), (79, none)]
abbrev q_Reader_tellLineX_5 (h : Hp) (T : Nat → Int → Int) (D : Nat → Int) (a : Int32) (aZ : Int) (b : Int32) (bZ : Int) (z : Int32) (zZ : Int) (d : Int32) (dZ : Int) : Option Value → Hp → Prop := pVd (fun h' => Inv h' ∧ fr S_Reader_tellLineX_5 h h' ∧ RC h' (x_upT T 5 aZ) (x_up D (80 + aZ) bZ))
set_option maxRecDepth 100000 in
theorem c_Reader_tellLineX_5 (h : Hp) (T : Nat → Int → Int) (D : Nat → Int) (hI : Inv h) (a : Int32) (aZ : Int) (aE : a.toInt = aZ) (aK : h.1 91 0 = a) (b : Int32) (bZ : Int) (bE : b.toInt = bZ) (bK : h.1 91 1 = b) (z : Int32) (zZ : Int) (zE : z.toInt = zZ) (zK : h.1 92 5 = z) (d : Int32) (dZ : Int) (dE : d.toInt = dZ) (dK : h.1 75 4 = d) (hy0 : RC h T D) (hy1 : 0 ≤ aZ ∧ aZ ≤ 3) (hy2 : 0 ≤ bZ ∧ bZ ≤ 99) : Ct y_Reader_tellLine b_Reader_tellLine 5 none 1 20 [.ref 88, .int 5] h (q_Reader_tellLineX_5 h T D a aZ b bZ z zZ d dZ) := by
  refine ct_ow R_Reader [some (.ref 88), some (.int 5), none, none, none] rfl (by decide) rfl (Nat.le_of_ble_eq_true rfl) ?_
  have f0 : fr S_Reader_tellLineX_5 h h := fr_rf
  have g1 : 0 ≤ dZ ∧ dZ ≤ 8 := inv_at hI dE dK.symm rfl
  refine V_aload_n 0 d_Reader_tellLine_0 rfl rfl ?_
  refine V_getR fa_Reader_21 sk_88 rfl d_Reader_tellLine_1 ?_
  refine V_getR fa_Reader_71 sk_68 rfl d_Reader_tellLine_4 ?_
  refine V_astore_n 2 [some (.ref 88), some (.int 5), some (.ref 69), none, none] d_Reader_tellLine_7 rfl (by decide) rfl rfl ?_
  refine V_aload_n 0 d_Reader_tellLine_8 rfl rfl ?_
  refine V_getR fa_Reader_25 sk_88 rfl d_Reader_tellLine_9 ?_
  refine V_iconst 0 d_Reader_tellLine_12 (by decide) ?_
  refine N_ialdK sk_91 tc_0 (by (first | decide +kernel | omega)) d_Reader_tellLine_13 aK ?_
  refine V_istore_n 3 [some (.ref 88), some (.int 5), some (.ref 69), some (.int a), none] d_Reader_tellLine_14 rfl (by decide) rfl rfl ?_
  refine V_aload_n 0 d_Reader_tellLine_15 rfl rfl ?_
  refine V_getR fa_Reader_25 sk_88 rfl d_Reader_tellLine_16 ?_
  refine V_iconst 1 d_Reader_tellLine_19 (by decide) ?_
  refine N_ialdK sk_91 tc_1 (by (first | decide +kernel | omega)) d_Reader_tellLine_20 bK ?_
  refine V_istore 4 [some (.ref 88), some (.int 5), some (.ref 69), some (.int a), some (.int b)] d_Reader_tellLine_21 (by decide) rfl rfl ?_
  refine V_aload_n 0 d_Reader_tellLine_23 rfl rfl ?_
  refine V_getR fa_Reader_29 sk_88 rfl d_Reader_tellLine_24 ?_
  refine V_iload_n 1 d_Reader_tellLine_27 rfl rfl ?_
  refine V_dup2 d_Reader_tellLine_28 rfl rfl ?_
  refine N_ialdK sk_92 tc_5 (by (first | decide +kernel | omega)) d_Reader_tellLine_29 zK ?_
  refine V_iload_n 1 d_Reader_tellLine_30 rfl rfl ?_
  refine N_callSI [.int 5] [.int z, .int 5, .ref 92] cs_Reader_131 d_Reader_tellLine_31 rfl (Nat.le_of_ble_eq_true rfl) (by decide) (by decide) (c_Reader_isOfOneX_5 h) (fun z5 h6 z5Z z5E p7 => ?_)
  obtain ⟨eh6, p7⟩ := p7
  subst eh6
  refine V_if_eq 43 z5E d_Reader_tellLine_34 (by decide) (fun c8 => ?_) (fun c8 => ?_)
  ·
    exact absurd c8 (by (first | decide +kernel | omega))
  ·
    refine V_iconst 1 d_Reader_tellLine_37 (by decide) ?_
    refine V_iload_n 3 d_Reader_tellLine_38 rfl rfl ?_
    refine N_ishl d_Reader_tellLine_39 (fun z9 z9Z z9E z9e => ?_)
    refine V_goto 44 d_Reader_tellLine_40 (by decide) ?_
    refine N_ior d_Reader_tellLine_44 (fun z10 z10Z z10E z10e => ?_)
    refine N_iast sk_92 tc_5 (by (first | decide +kernel | omega)) d_Reader_tellLine_45 (fun h11 eh11 => ?_)
    have hI12 : Inv h11 := inv_full hI eh11 rfl
    have f13 : fr S_Reader_tellLineX_5 h h11 := fr_put f0 eh11 rfl
    refine V_iload_n 1 d_Reader_tellLine_46 rfl rfl ?_
    refine V_tabIn 153 tc_5 d_Reader_tellLine_47 (by decide) (by decide) rfl (by decide) ?_
    refine V_aload_n 0 d_Reader_tellLine_153 rfl rfl ?_
    refine V_getR fa_Reader_21 sk_88 rfl d_Reader_tellLine_154 ?_
    refine V_getR fa_Reader_94 sk_68 rfl d_Reader_tellLine_157 ?_
    refine V_getR fa_Reader_152 sk_75 rfl d_Reader_tellLine_160 ?_
    refine V_iload_n 3 d_Reader_tellLine_163 rfl rfl ?_
    refine V_iload d_Reader_tellLine_164 rfl ?_
    refine N_iast sk_76 aE (by (first | decide +kernel | omega)) d_Reader_tellLine_166 (fun h14 eh14 => ?_)
    have hI15 : Inv h14 := inv_full hI12 eh14 rfl
    have f16 : fr S_Reader_tellLineX_5 h h14 := fr_put f13 eh14 rfl
    refine V_goto 227 d_Reader_tellLine_167 (by decide) ?_
    exact V_vret rfl d_Reader_tellLine_227 ⟨rfl, ⟨hI15, f16, ⟨RCt_ne (RCt_one hy0.1 ⟨by decide, by decide⟩ eh11 zK (by (first | decide +kernel | omega)) aE (by assumption) (by assumption) rfl) eh14 (by decide), RCd_put (RCd_ne hy0.2.1 eh11 (by decide)) eh14 (dof_row (k := 76) (n := 4) (o := 80) (A := aZ) (by decide) (by (first | decide +kernel | omega)) rfl) bE (by (first | decide +kernel | omega)), RCb_put (RCb_ne hy0.2.2 eh11 ⟨by decide, by decide, by decide⟩) eh14 ⟨by decide, by decide, by decide⟩ (by (first | decide +kernel | omega)) (fun j hj => by have q0 := RCd_debt hy0 dK dE; omega)⟩⟩⟩
def S_Reader_tellLineX_6 : List (Nat × Option Nat) := [(92, none), (69, none), (70, none), (71, none), (72, none), (73, none), (74, none), (76, none), (68, some 3), (68, some 4), (75, some 4), (77, none), (78, none), (79, none)]
abbrev q_Reader_tellLineX_6 (h : Hp) (T : Nat → Int → Int) (D : Nat → Int) (a : Int32) (aZ : Int) (z : Int32) (zZ : Int) (d : Int32) (dZ : Int) : Option Value → Hp → Prop := pVd (fun h' => Inv h' ∧ fr S_Reader_tellLineX_6 h h' ∧ RC h' (x_upT T 6 0) (x_up D 146 aZ))
set_option maxRecDepth 100000 in
theorem c_Reader_tellLineX_6 (h : Hp) (T : Nat → Int → Int) (D : Nat → Int) (hI : Inv h) (a : Int32) (aZ : Int) (aE : a.toInt = aZ) (aK : h.1 91 0 = a) (z : Int32) (zZ : Int) (zE : z.toInt = zZ) (zK : h.1 92 6 = z) (d : Int32) (dZ : Int) (dE : d.toInt = dZ) (dK : h.1 75 4 = d) (hy0 : RC h T D) (hy1 : 1 ≤ aZ ∧ aZ ≤ 9) : Ct y_Reader_tellLine b_Reader_tellLine 5 none 1 20 [.ref 88, .int 6] h (q_Reader_tellLineX_6 h T D a aZ z zZ d dZ) := by
  refine ct_ow R_Reader [some (.ref 88), some (.int 6), none, none, none] rfl (by decide) rfl (Nat.le_of_ble_eq_true rfl) ?_
  have f0 : fr S_Reader_tellLineX_6 h h := fr_rf
  have g1 : 0 ≤ dZ ∧ dZ ≤ 8 := inv_at hI dE dK.symm rfl
  refine V_aload_n 0 d_Reader_tellLine_0 rfl rfl ?_
  refine V_getR fa_Reader_21 sk_88 rfl d_Reader_tellLine_1 ?_
  refine V_getR fa_Reader_71 sk_68 rfl d_Reader_tellLine_4 ?_
  refine V_astore_n 2 [some (.ref 88), some (.int 6), some (.ref 69), none, none] d_Reader_tellLine_7 rfl (by decide) rfl rfl ?_
  refine V_aload_n 0 d_Reader_tellLine_8 rfl rfl ?_
  refine V_getR fa_Reader_25 sk_88 rfl d_Reader_tellLine_9 ?_
  refine V_iconst 0 d_Reader_tellLine_12 (by decide) ?_
  refine N_ialdK sk_91 tc_0 (by (first | decide +kernel | omega)) d_Reader_tellLine_13 aK ?_
  refine V_istore_n 3 [some (.ref 88), some (.int 6), some (.ref 69), some (.int a), none] d_Reader_tellLine_14 rfl (by decide) rfl rfl ?_
  refine V_aload_n 0 d_Reader_tellLine_15 rfl rfl ?_
  refine V_getR fa_Reader_25 sk_88 rfl d_Reader_tellLine_16 ?_
  refine V_iconst 1 d_Reader_tellLine_19 (by decide) ?_
  refine N_iald sk_91 tc_1 (by (first | decide +kernel | omega)) d_Reader_tellLine_20 (fun z3 z3Z z3E z3e => ?_)
  refine V_istore 4 [some (.ref 88), some (.int 6), some (.ref 69), some (.int a), some (.int z3)] d_Reader_tellLine_21 (by decide) rfl rfl ?_
  refine V_aload_n 0 d_Reader_tellLine_23 rfl rfl ?_
  refine V_getR fa_Reader_29 sk_88 rfl d_Reader_tellLine_24 ?_
  refine V_iload_n 1 d_Reader_tellLine_27 rfl rfl ?_
  refine V_dup2 d_Reader_tellLine_28 rfl rfl ?_
  refine N_ialdK sk_92 tc_6 (by (first | decide +kernel | omega)) d_Reader_tellLine_29 zK ?_
  refine V_iload_n 1 d_Reader_tellLine_30 rfl rfl ?_
  refine N_callSI [.int 6] [.int z, .int 6, .ref 92] cs_Reader_131 d_Reader_tellLine_31 rfl (Nat.le_of_ble_eq_true rfl) (by decide) (by decide) (c_Reader_isOfOneX_6 h) (fun z5 h6 z5Z z5E p7 => ?_)
  obtain ⟨eh6, p7⟩ := p7
  subst eh6
  refine V_if_eq 43 z5E d_Reader_tellLine_34 (by decide) (fun c8 => ?_) (fun c8 => ?_)
  ·
    refine V_iconst 1 d_Reader_tellLine_43 (by decide) ?_
    refine N_ior d_Reader_tellLine_44 (fun z9 z9Z z9E z9e => ?_)
    refine N_iast sk_92 tc_6 (by (first | decide +kernel | omega)) d_Reader_tellLine_45 (fun h10 eh10 => ?_)
    have hI11 : Inv h10 := inv_full hI eh10 rfl
    have f12 : fr S_Reader_tellLineX_6 h h10 := fr_put f0 eh10 rfl
    refine V_iload_n 1 d_Reader_tellLine_46 rfl rfl ?_
    refine V_tabIn 170 tc_6 d_Reader_tellLine_47 (by decide) (by decide) rfl (by decide) ?_
    refine V_aload_n 2 d_Reader_tellLine_170 rfl rfl ?_
    refine V_iload_n 3 d_Reader_tellLine_171 rfl rfl ?_
    refine N_putI fp_Reader_155 sk_69 rfl d_Reader_tellLine_172 (fun h13 eh13 => ?_)
    have hI14 : Inv h13 := inv_full hI11 eh13 rfl
    have f15 : fr S_Reader_tellLineX_6 h h13 := fr_put f12 eh13 rfl
    refine V_goto 227 d_Reader_tellLine_175 (by decide) ?_
    exact V_vret rfl d_Reader_tellLine_227 ⟨rfl, ⟨hI14, f15, ⟨RCt_ne (RCt_once hy0.1 (by decide) eh10 (by assumption) rfl) eh13 (by decide), RCd_put (RCd_ne hy0.2.1 eh10 (by decide)) eh13 (show dof 69 2 = some 146 from rfl) aE (by (first | decide +kernel | omega)), RCb_put (RCb_ne hy0.2.2 eh10 ⟨by decide, by decide, by decide⟩) eh13 ⟨by decide, by decide, by decide⟩ (by (first | decide +kernel | omega)) (fun j hj => by have q0 := RCd_debt hy0 dK dE; omega)⟩⟩⟩
  ·
    exact absurd c8 (by (first | decide +kernel | omega))
def S_Reader_tellLineX_7 : List (Nat × Option Nat) := [(92, none), (69, none), (70, none), (71, none), (72, none), (73, none), (74, none), (76, none), (68, some 3), (68, some 4), (75, some 4), (77, none), (78, none), (79, none)]
abbrev q_Reader_tellLineX_7 (h : Hp) (T : Nat → Int → Int) (D : Nat → Int) (a : Int32) (aZ : Int) (z : Int32) (zZ : Int) (d : Int32) (dZ : Int) : Option Value → Hp → Prop := pVd (fun h' => Inv h' ∧ fr S_Reader_tellLineX_7 h h' ∧ RC h' (x_upT T 7 0) (x_up D 147 aZ))
set_option maxRecDepth 100000 in
theorem c_Reader_tellLineX_7 (h : Hp) (T : Nat → Int → Int) (D : Nat → Int) (hI : Inv h) (a : Int32) (aZ : Int) (aE : a.toInt = aZ) (aK : h.1 91 0 = a) (z : Int32) (zZ : Int) (zE : z.toInt = zZ) (zK : h.1 92 7 = z) (d : Int32) (dZ : Int) (dE : d.toInt = dZ) (dK : h.1 75 4 = d) (hy0 : RC h T D) (hy1 : 1 ≤ aZ ∧ aZ ≤ 99) : Ct y_Reader_tellLine b_Reader_tellLine 5 none 1 20 [.ref 88, .int 7] h (q_Reader_tellLineX_7 h T D a aZ z zZ d dZ) := by
  refine ct_ow R_Reader [some (.ref 88), some (.int 7), none, none, none] rfl (by decide) rfl (Nat.le_of_ble_eq_true rfl) ?_
  have f0 : fr S_Reader_tellLineX_7 h h := fr_rf
  have g1 : 0 ≤ dZ ∧ dZ ≤ 8 := inv_at hI dE dK.symm rfl
  refine V_aload_n 0 d_Reader_tellLine_0 rfl rfl ?_
  refine V_getR fa_Reader_21 sk_88 rfl d_Reader_tellLine_1 ?_
  refine V_getR fa_Reader_71 sk_68 rfl d_Reader_tellLine_4 ?_
  refine V_astore_n 2 [some (.ref 88), some (.int 7), some (.ref 69), none, none] d_Reader_tellLine_7 rfl (by decide) rfl rfl ?_
  refine V_aload_n 0 d_Reader_tellLine_8 rfl rfl ?_
  refine V_getR fa_Reader_25 sk_88 rfl d_Reader_tellLine_9 ?_
  refine V_iconst 0 d_Reader_tellLine_12 (by decide) ?_
  refine N_ialdK sk_91 tc_0 (by (first | decide +kernel | omega)) d_Reader_tellLine_13 aK ?_
  refine V_istore_n 3 [some (.ref 88), some (.int 7), some (.ref 69), some (.int a), none] d_Reader_tellLine_14 rfl (by decide) rfl rfl ?_
  refine V_aload_n 0 d_Reader_tellLine_15 rfl rfl ?_
  refine V_getR fa_Reader_25 sk_88 rfl d_Reader_tellLine_16 ?_
  refine V_iconst 1 d_Reader_tellLine_19 (by decide) ?_
  refine N_iald sk_91 tc_1 (by (first | decide +kernel | omega)) d_Reader_tellLine_20 (fun z3 z3Z z3E z3e => ?_)
  refine V_istore 4 [some (.ref 88), some (.int 7), some (.ref 69), some (.int a), some (.int z3)] d_Reader_tellLine_21 (by decide) rfl rfl ?_
  refine V_aload_n 0 d_Reader_tellLine_23 rfl rfl ?_
  refine V_getR fa_Reader_29 sk_88 rfl d_Reader_tellLine_24 ?_
  refine V_iload_n 1 d_Reader_tellLine_27 rfl rfl ?_
  refine V_dup2 d_Reader_tellLine_28 rfl rfl ?_
  refine N_ialdK sk_92 tc_7 (by (first | decide +kernel | omega)) d_Reader_tellLine_29 zK ?_
  refine V_iload_n 1 d_Reader_tellLine_30 rfl rfl ?_
  refine N_callSI [.int 7] [.int z, .int 7, .ref 92] cs_Reader_131 d_Reader_tellLine_31 rfl (Nat.le_of_ble_eq_true rfl) (by decide) (by decide) (c_Reader_isOfOneX_7 h) (fun z5 h6 z5Z z5E p7 => ?_)
  obtain ⟨eh6, p7⟩ := p7
  subst eh6
  refine V_if_eq 43 z5E d_Reader_tellLine_34 (by decide) (fun c8 => ?_) (fun c8 => ?_)
  ·
    refine V_iconst 1 d_Reader_tellLine_43 (by decide) ?_
    refine N_ior d_Reader_tellLine_44 (fun z9 z9Z z9E z9e => ?_)
    refine N_iast sk_92 tc_7 (by (first | decide +kernel | omega)) d_Reader_tellLine_45 (fun h10 eh10 => ?_)
    have hI11 : Inv h10 := inv_full hI eh10 rfl
    have f12 : fr S_Reader_tellLineX_7 h h10 := fr_put f0 eh10 rfl
    refine V_iload_n 1 d_Reader_tellLine_46 rfl rfl ?_
    refine V_tabIn 178 tc_7 d_Reader_tellLine_47 (by decide) (by decide) rfl (by decide) ?_
    refine V_aload_n 2 d_Reader_tellLine_178 rfl rfl ?_
    refine V_iload_n 3 d_Reader_tellLine_179 rfl rfl ?_
    refine N_putI fp_Reader_158 sk_69 rfl d_Reader_tellLine_180 (fun h13 eh13 => ?_)
    have hI14 : Inv h13 := inv_full hI11 eh13 rfl
    have f15 : fr S_Reader_tellLineX_7 h h13 := fr_put f12 eh13 rfl
    refine V_goto 227 d_Reader_tellLine_183 (by decide) ?_
    exact V_vret rfl d_Reader_tellLine_227 ⟨rfl, ⟨hI14, f15, ⟨RCt_ne (RCt_once hy0.1 (by decide) eh10 (by assumption) rfl) eh13 (by decide), RCd_put (RCd_ne hy0.2.1 eh10 (by decide)) eh13 (show dof 69 3 = some 147 from rfl) aE (by (first | decide +kernel | omega)), RCb_put (RCb_ne hy0.2.2 eh10 ⟨by decide, by decide, by decide⟩) eh13 ⟨by decide, by decide, by decide⟩ (by (first | decide +kernel | omega)) (fun j hj => by have q0 := RCd_debt hy0 dK dE; omega)⟩⟩⟩
  ·
    exact absurd c8 (by (first | decide +kernel | omega))
def S_Reader_tellLineX_8 : List (Nat × Option Nat) := [(92, none), (69, none), (70, none), (71, none), (72, none), (73, none), (74, none), (76, none), (68, some 3), (68, some 4), (75, some 4), (77, none), (78, none), (79, none)]
abbrev q_Reader_tellLineX_8 (h : Hp) (T : Nat → Int → Int) (D : Nat → Int) (a : Int32) (aZ : Int) (z : Int32) (zZ : Int) (d : Int32) (dZ : Int) (n : Int32) (nZ : Int) : Option Value → Hp → Prop := pVd (fun h' => Inv h' ∧ fr S_Reader_tellLineX_8 h h' ∧ RC h' (x_upT T 8 0) (x_up (x_up D 84 nZ) 85 aZ))
set_option maxRecDepth 100000 in
theorem c_Reader_tellLineX_8 (h : Hp) (T : Nat → Int → Int) (D : Nat → Int) (hI : Inv h) (a : Int32) (aZ : Int) (aE : a.toInt = aZ) (aK : h.1 91 0 = a) (z : Int32) (zZ : Int) (zE : z.toInt = zZ) (zK : h.1 92 8 = z) (d : Int32) (dZ : Int) (dE : d.toInt = dZ) (dK : h.1 75 4 = d) (n : Int32) (nZ : Int) (nE : n.toInt = nZ) (nK : h.1 88 4 = n) (hy0 : RC h T D) (hy1 : 1 ≤ aZ ∧ aZ ≤ 9) : Ct y_Reader_tellLine b_Reader_tellLine 5 none 1 20 [.ref 88, .int 8] h (q_Reader_tellLineX_8 h T D a aZ z zZ d dZ n nZ) := by
  refine ct_ow R_Reader [some (.ref 88), some (.int 8), none, none, none] rfl (by decide) rfl (Nat.le_of_ble_eq_true rfl) ?_
  have f0 : fr S_Reader_tellLineX_8 h h := fr_rf
  have g1 : 0 ≤ dZ ∧ dZ ≤ 8 := inv_at hI dE dK.symm rfl
  refine V_aload_n 0 d_Reader_tellLine_0 rfl rfl ?_
  refine V_getR fa_Reader_21 sk_88 rfl d_Reader_tellLine_1 ?_
  refine V_getR fa_Reader_71 sk_68 rfl d_Reader_tellLine_4 ?_
  refine V_astore_n 2 [some (.ref 88), some (.int 8), some (.ref 69), none, none] d_Reader_tellLine_7 rfl (by decide) rfl rfl ?_
  refine V_aload_n 0 d_Reader_tellLine_8 rfl rfl ?_
  refine V_getR fa_Reader_25 sk_88 rfl d_Reader_tellLine_9 ?_
  refine V_iconst 0 d_Reader_tellLine_12 (by decide) ?_
  refine N_ialdK sk_91 tc_0 (by (first | decide +kernel | omega)) d_Reader_tellLine_13 aK ?_
  refine V_istore_n 3 [some (.ref 88), some (.int 8), some (.ref 69), some (.int a), none] d_Reader_tellLine_14 rfl (by decide) rfl rfl ?_
  refine V_aload_n 0 d_Reader_tellLine_15 rfl rfl ?_
  refine V_getR fa_Reader_25 sk_88 rfl d_Reader_tellLine_16 ?_
  refine V_iconst 1 d_Reader_tellLine_19 (by decide) ?_
  refine N_iald sk_91 tc_1 (by (first | decide +kernel | omega)) d_Reader_tellLine_20 (fun z3 z3Z z3E z3e => ?_)
  refine V_istore 4 [some (.ref 88), some (.int 8), some (.ref 69), some (.int a), some (.int z3)] d_Reader_tellLine_21 (by decide) rfl rfl ?_
  refine V_aload_n 0 d_Reader_tellLine_23 rfl rfl ?_
  refine V_getR fa_Reader_29 sk_88 rfl d_Reader_tellLine_24 ?_
  refine V_iload_n 1 d_Reader_tellLine_27 rfl rfl ?_
  refine V_dup2 d_Reader_tellLine_28 rfl rfl ?_
  refine N_ialdK sk_92 tc_8 (by (first | decide +kernel | omega)) d_Reader_tellLine_29 zK ?_
  refine V_iload_n 1 d_Reader_tellLine_30 rfl rfl ?_
  refine N_callSI [.int 8] [.int z, .int 8, .ref 92] cs_Reader_131 d_Reader_tellLine_31 rfl (Nat.le_of_ble_eq_true rfl) (by decide) (by decide) (c_Reader_isOfOneX_8 h) (fun z5 h6 z5Z z5E p7 => ?_)
  obtain ⟨eh6, p7⟩ := p7
  subst eh6
  refine V_if_eq 43 z5E d_Reader_tellLine_34 (by decide) (fun c8 => ?_) (fun c8 => ?_)
  ·
    refine V_iconst 1 d_Reader_tellLine_43 (by decide) ?_
    refine N_ior d_Reader_tellLine_44 (fun z9 z9Z z9E z9e => ?_)
    refine N_iast sk_92 tc_8 (by (first | decide +kernel | omega)) d_Reader_tellLine_45 (fun h10 eh10 => ?_)
    have hI11 : Inv h10 := inv_full hI eh10 rfl
    have f12 : fr S_Reader_tellLineX_8 h h10 := fr_put f0 eh10 rfl
    refine V_iload_n 1 d_Reader_tellLine_46 rfl rfl ?_
    refine V_tabIn 186 tc_8 d_Reader_tellLine_47 (by decide) (by decide) rfl (by decide) ?_
    refine V_aload_n 0 d_Reader_tellLine_186 rfl rfl ?_
    refine V_getR fa_Reader_21 sk_88 rfl d_Reader_tellLine_187 ?_
    refine V_aload_n 0 d_Reader_tellLine_190 rfl rfl ?_
    refine N_getK fa_Reader_119 sk_88 rfl d_Reader_tellLine_191 (kn_ne eh10 nK (by decide)) ?_
    refine N_putI fp_Reader_161 sk_68 rfl d_Reader_tellLine_194 (fun h13 eh13 => ?_)
    have hI14 : Inv h13 := inv_full hI11 eh13 rfl
    have f15 : fr S_Reader_tellLineX_8 h h13 := fr_put f12 eh13 rfl
    refine V_aload_n 0 d_Reader_tellLine_197 rfl rfl ?_
    refine V_getR fa_Reader_21 sk_88 rfl d_Reader_tellLine_198 ?_
    refine V_iload_n 3 d_Reader_tellLine_201 rfl rfl ?_
    refine N_putI fp_Reader_164 sk_68 rfl d_Reader_tellLine_202 (fun h16 eh16 => ?_)
    have hI17 : Inv h16 := inv_full hI14 eh16 rfl
    have f18 : fr S_Reader_tellLineX_8 h h16 := fr_put f15 eh16 rfl
    refine V_goto 227 d_Reader_tellLine_205 (by decide) ?_
    exact V_vret rfl d_Reader_tellLine_227 ⟨rfl, ⟨hI17, f18, ⟨RCt_ne (RCt_ne (RCt_once hy0.1 (by decide) eh10 (by assumption) rfl) eh13 (by decide)) eh16 (by decide), RCd_put (RCd_put (RCd_ne hy0.2.1 eh10 (by decide)) eh13 (show dof 68 3 = some 84 from rfl) nE (by (first | decide +kernel | omega))) eh16 (show dof 68 4 = some 85 from rfl) aE (by (first | decide +kernel | omega)), RCb_put (RCb_put (RCb_ne hy0.2.2 eh10 ⟨by decide, by decide, by decide⟩) eh13 ⟨by decide, by decide, by decide⟩ (by (first | decide +kernel | omega)) (fun j hj => by have q0 := RCd_debt hy0 dK dE; omega)) eh16 ⟨by decide, by decide, by decide⟩ (by (first | decide +kernel | omega)) (fun j hj => by have q0 := RCd_debt hy0 dK dE; have q1 := x_up86 (D := D) (k := 84) (v := nZ) (by decide); omega)⟩⟩⟩
  ·
    exact absurd c8 (by (first | decide +kernel | omega))
def S_Reader_tellLineX_9 : List (Nat × Option Nat) := [(92, none), (69, none), (70, none), (71, none), (72, none), (73, none), (74, none), (76, none), (68, some 3), (68, some 4), (75, some 4), (77, none), (78, none), (79, none)]
abbrev q_Reader_tellLineX_9 (h : Hp) (T : Nat → Int → Int) (D : Nat → Int) (a : Int32) (aZ : Int) (b : Int32) (bZ : Int) (c : Int32) (cZ : Int) (z : Int32) (zZ : Int) (d : Int32) (dZ : Int) : Option Value → Hp → Prop := pVd (fun h' => Inv h' ∧ fr S_Reader_tellLineX_9 h h' ∧ RC h' (x_upT T 9 0) (x_up (x_up (x_up (x_up D (87 + 3 * D 86) aZ) (88 + 3 * D 86) bZ) (89 + 3 * D 86) cZ) 86 (D 86 + 1)))
set_option maxRecDepth 100000 in
theorem c_Reader_tellLineX_9 (h : Hp) (T : Nat → Int → Int) (D : Nat → Int) (hI : Inv h) (a : Int32) (aZ : Int) (aE : a.toInt = aZ) (aK : h.1 91 0 = a) (b : Int32) (bZ : Int) (bE : b.toInt = bZ) (bK : h.1 91 1 = b) (c : Int32) (cZ : Int) (cE : c.toInt = cZ) (cK : h.1 91 2 = c) (z : Int32) (zZ : Int) (zE : z.toInt = zZ) (zK : h.1 92 9 = z) (d : Int32) (dZ : Int) (dE : d.toInt = dZ) (dK : h.1 75 4 = d) (hy0 : RC h T D) (hy1 : 0 ≤ aZ ∧ aZ ≤ 3) (hy2 : 0 ≤ bZ ∧ bZ ≤ 3) (hy3 : 1 ≤ cZ ∧ cZ ≤ 99) (hy4 : dZ < 8) : Ct y_Reader_tellLine b_Reader_tellLine 5 none 1 23 [.ref 88, .int 9] h (q_Reader_tellLineX_9 h T D a aZ b bZ c cZ z zZ d dZ) := by
  refine ct_ow R_Reader [some (.ref 88), some (.int 9), none, none, none] rfl (by decide) rfl (Nat.le_of_ble_eq_true rfl) ?_
  have f0 : fr S_Reader_tellLineX_9 h h := fr_rf
  have g1 : 0 ≤ dZ ∧ dZ ≤ 8 := inv_at hI dE dK.symm rfl
  refine V_aload_n 0 d_Reader_tellLine_0 rfl rfl ?_
  refine V_getR fa_Reader_21 sk_88 rfl d_Reader_tellLine_1 ?_
  refine V_getR fa_Reader_71 sk_68 rfl d_Reader_tellLine_4 ?_
  refine V_astore_n 2 [some (.ref 88), some (.int 9), some (.ref 69), none, none] d_Reader_tellLine_7 rfl (by decide) rfl rfl ?_
  refine V_aload_n 0 d_Reader_tellLine_8 rfl rfl ?_
  refine V_getR fa_Reader_25 sk_88 rfl d_Reader_tellLine_9 ?_
  refine V_iconst 0 d_Reader_tellLine_12 (by decide) ?_
  refine N_ialdK sk_91 tc_0 (by (first | decide +kernel | omega)) d_Reader_tellLine_13 aK ?_
  refine V_istore_n 3 [some (.ref 88), some (.int 9), some (.ref 69), some (.int a), none] d_Reader_tellLine_14 rfl (by decide) rfl rfl ?_
  refine V_aload_n 0 d_Reader_tellLine_15 rfl rfl ?_
  refine V_getR fa_Reader_25 sk_88 rfl d_Reader_tellLine_16 ?_
  refine V_iconst 1 d_Reader_tellLine_19 (by decide) ?_
  refine N_ialdK sk_91 tc_1 (by (first | decide +kernel | omega)) d_Reader_tellLine_20 bK ?_
  refine V_istore 4 [some (.ref 88), some (.int 9), some (.ref 69), some (.int a), some (.int b)] d_Reader_tellLine_21 (by decide) rfl rfl ?_
  refine V_aload_n 0 d_Reader_tellLine_23 rfl rfl ?_
  refine V_getR fa_Reader_29 sk_88 rfl d_Reader_tellLine_24 ?_
  refine V_iload_n 1 d_Reader_tellLine_27 rfl rfl ?_
  refine V_dup2 d_Reader_tellLine_28 rfl rfl ?_
  refine N_ialdK sk_92 tc_9 (by (first | decide +kernel | omega)) d_Reader_tellLine_29 zK ?_
  refine V_iload_n 1 d_Reader_tellLine_30 rfl rfl ?_
  refine N_callSI [.int 9] [.int z, .int 9, .ref 92] cs_Reader_131 d_Reader_tellLine_31 rfl (Nat.le_of_ble_eq_true rfl) (by decide) (by decide) (c_Reader_isOfOneX_9 h) (fun z5 h6 z5Z z5E p7 => ?_)
  obtain ⟨eh6, p7⟩ := p7
  subst eh6
  refine V_if_eq 43 z5E d_Reader_tellLine_34 (by decide) (fun c8 => ?_) (fun c8 => ?_)
  ·
    refine V_iconst 1 d_Reader_tellLine_43 (by decide) ?_
    refine N_ior d_Reader_tellLine_44 (fun z9 z9Z z9E z9e => ?_)
    refine N_iast sk_92 tc_9 (by (first | decide +kernel | omega)) d_Reader_tellLine_45 (fun h10 eh10 => ?_)
    have hI11 : Inv h10 := inv_full hI eh10 rfl
    have f12 : fr S_Reader_tellLineX_9 h h10 := fr_put f0 eh10 rfl
    refine V_iload_n 1 d_Reader_tellLine_46 rfl rfl ?_
    refine V_tabOut 208 tc_9 d_Reader_tellLine_47 (by decide) (by decide) ?_
    refine V_aload_n 0 d_Reader_tellLine_208 rfl rfl ?_
    refine V_getR fa_Reader_21 sk_88 rfl d_Reader_tellLine_209 ?_
    refine V_getR fa_Reader_94 sk_68 rfl d_Reader_tellLine_212 ?_
    refine V_iload_n 3 d_Reader_tellLine_215 rfl rfl ?_
    refine V_iload d_Reader_tellLine_216 rfl ?_
    refine V_aload_n 0 d_Reader_tellLine_218 rfl rfl ?_
    refine V_getR fa_Reader_25 sk_88 rfl d_Reader_tellLine_219 ?_
    refine V_iconst 2 d_Reader_tellLine_222 (by decide) ?_
    refine N_ialdK sk_91 tc_2 (by (first | decide +kernel | omega)) d_Reader_tellLine_223 (kn_ne eh10 cK (by decide)) ?_
    refine N_callVV [.int a, .int b, .int c] [] cv_Reader_167 sk_75 rfl d_Reader_tellLine_224 rfl (Nat.le_of_ble_eq_true rfl) (by decide) (by decide) (c_Ledger_addDebtX_4 h10 hI11 a aZ aE b bZ bE c cZ cE d dZ dE (kn_ne eh10 dK (by decide)) (by (first | decide +kernel | omega))) (fun h15 p16 => ?_)
    obtain ⟨hI17, fh15, o19, o19Z, o19E, o19K, p16⟩ := p16
    have f18 : fr S_Reader_tellLineX_9 h h15 := fr_call f12 fh15 rfl
    have g20 : 0 ≤ o19Z ∧ o19Z ≤ 8 := inv_at hI17 o19E o19K.symm rfl
    have qD := p16
    exact V_vret rfl d_Reader_tellLine_227 ⟨rfl, ⟨hI17, f18, (RC_owe ⟨RCt_nine hy0.1 eh10, RCd_ne hy0.2.1 eh10 (by decide), RCb_ne hy0.2.2 eh10 ⟨by decide, by decide, by decide⟩⟩ (RCd_debt hy0 dK dE) ⟨by (first | decide +kernel | omega), by (first | decide +kernel | omega)⟩ aE bE cE o19E qD.2 qD.1)⟩⟩
  ·
    exact absurd c8 (by (first | decide +kernel | omega))
