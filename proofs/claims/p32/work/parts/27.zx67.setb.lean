section
def S_Land_copyX_1_0 : List (Nat × Option Nat) := [(18, none), (19, none), (20, none), (21, none), (22, none), (23, none)]
abbrev q_Land_copyX_1_0 (h : Hp) (w : Int32) (wZ : Int) (g : Int32) (gZ : Int) (x : Int32) (xZ : Int) (y : Int32) (yZ : Int) : Option Value → Hp → Prop := pVd (fun h' => Inv h' ∧ fr S_Land_copyX_1_0 h h' ∧ (h'.1 18 0 = h.1 1 0 ∧ h'.1 18 1 = h.1 1 1 ∧ h'.1 18 2 = h.1 1 2 ∧ h'.1 18 3 = h.1 1 3 ∧ rcp h h' 19 2 16 ∧ rcp h h' 20 3 16 ∧ rcp h h' 21 4 16 ∧ rcp h h' 22 5 16 ∧ rcp h h' 23 6 16))
set_option maxRecDepth 100000 in
theorem c_Land_copyX_1_0 (h : Hp) (hI : Inv h) (w : Int32) (wZ : Int) (wE : w.toInt = wZ) (wK : h.1 1 0 = w) (g : Int32) (gZ : Int) (gE : g.toInt = gZ) (gK : h.1 1 1 = g) (x : Int32) (xZ : Int) (xE : x.toInt = xZ) (xK : h.1 1 2 = x) (y : Int32) (yZ : Int) (yE : y.toInt = yZ) (yK : h.1 1 3 = y) : Ct y_Land_copyFrom b_Land_copyFrom 2 none 1 60 [.ref 18, .ref 1] h (q_Land_copyX_1_0 h w wZ g gZ x xZ y yZ) := by
  refine ct_ow R_Land [some (.ref 18), some (.ref 1)] rfl (by decide) rfl (Nat.le_of_ble_eq_true rfl) ?_
  have f0 : fr S_Land_copyX_1_0 h h := fr_rf
  have g1 : 2 ≤ wZ ∧ wZ ≤ 4 := inv_at hI wE wK.symm rfl
  have g2 : 2 ≤ gZ ∧ gZ ≤ 4 := inv_at hI gE gK.symm rfl
  refine V_aload_n 0 d_Land_copyFrom_0 rfl rfl ?_
  refine V_aload_n 1 d_Land_copyFrom_1 rfl rfl ?_
  refine N_getK fa_Land_27 sk_1 rfl d_Land_copyFrom_2 wK ?_
  refine N_putI fp_Land_27 sk_18 rfl d_Land_copyFrom_5 (fun h3 eh3 => ?_)
  have hI4 : Inv h3 := inv_put (lo := 2) (hi := 4) hI eh3 rfl wE (by omega)
  have f5 : fr S_Land_copyX_1_0 h h3 := fr_put f0 eh3 rfl
  refine V_aload_n 0 d_Land_copyFrom_8 rfl rfl ?_
  refine V_aload_n 1 d_Land_copyFrom_9 rfl rfl ?_
  refine N_getK fa_Land_31 sk_1 rfl d_Land_copyFrom_10 (kn_ne eh3 gK (by decide)) ?_
  refine N_putI fp_Land_31 sk_18 rfl d_Land_copyFrom_13 (fun h6 eh6 => ?_)
  have hI7 : Inv h6 := inv_put (lo := 2) (hi := 4) hI4 eh6 rfl gE (by omega)
  have f8 : fr S_Land_copyX_1_0 h h6 := fr_put f5 eh6 rfl
  refine V_aload_n 0 d_Land_copyFrom_16 rfl rfl ?_
  refine V_aload_n 1 d_Land_copyFrom_17 rfl rfl ?_
  refine N_getK fa_Land_34 sk_1 rfl d_Land_copyFrom_18 (kn_ne eh6 (kn_ne eh3 xK (by decide)) (by decide)) ?_
  refine N_putI fp_Land_34 sk_18 rfl d_Land_copyFrom_21 (fun h9 eh9 => ?_)
  have hI10 : Inv h9 := inv_full hI7 eh9 rfl
  have f11 : fr S_Land_copyX_1_0 h h9 := fr_put f8 eh9 rfl
  refine V_aload_n 0 d_Land_copyFrom_24 rfl rfl ?_
  refine V_aload_n 1 d_Land_copyFrom_25 rfl rfl ?_
  refine N_getK fa_Land_37 sk_1 rfl d_Land_copyFrom_26 (kn_ne eh9 (kn_ne eh6 (kn_ne eh3 yK (by decide)) (by decide)) (by decide)) ?_
  refine N_putI fp_Land_37 sk_18 rfl d_Land_copyFrom_29 (fun h12 eh12 => ?_)
  have hI13 : Inv h12 := inv_full hI10 eh12 rfl
  have f14 : fr S_Land_copyX_1_0 h h12 := fr_put f11 eh12 rfl
  refine V_aload_n 1 d_Land_copyFrom_32 rfl rfl ?_
  refine V_getR fa_Land_9 sk_1 rfl d_Land_copyFrom_33 ?_
  refine V_iconst 0 d_Land_copyFrom_36 (by decide) ?_
  refine V_aload_n 0 d_Land_copyFrom_37 rfl rfl ?_
  refine V_getR fa_Land_9 sk_18 rfl d_Land_copyFrom_38 ?_
  refine V_iconst 0 d_Land_copyFrom_41 (by decide) ?_
  refine V_bipush 16 d_Land_copyFrom_42 (by decide) ?_
  refine N_acopy sk_2 sk_19 tc_0 tc_0 tc_16 (by omega) wa_Land_46 wA1 wA2 wA3 d_Land_copyFrom_44 (by decide) (Nat.le_of_ble_eq_true rfl) (fun h15 eh15 => ?_)
  have hI16 : Inv h15 := inv_cpy (n := 16) hI13 eh15 (fun _ => rfl)
  have f17 : fr S_Land_copyX_1_0 h h15 := fr_row f14 eh15 (fun _ => rfl)
  have C18 : rcp h h15 19 2 16 := rcp_now f14 (fun _ => rfl) eh15
  refine V_aload_n 1 d_Land_copyFrom_47 rfl rfl ?_
  refine V_getR fa_Land_15 sk_1 rfl d_Land_copyFrom_48 ?_
  refine V_iconst 0 d_Land_copyFrom_51 (by decide) ?_
  refine V_aload_n 0 d_Land_copyFrom_52 rfl rfl ?_
  refine V_getR fa_Land_15 sk_18 rfl d_Land_copyFrom_53 ?_
  refine V_iconst 0 d_Land_copyFrom_56 (by decide) ?_
  refine V_bipush 16 d_Land_copyFrom_57 (by decide) ?_
  refine N_acopy sk_3 sk_20 tc_0 tc_0 tc_16 (by omega) wa_Land_46 wA1 wA2 wA3 d_Land_copyFrom_59 (by decide) (Nat.le_of_ble_eq_true rfl) (fun h19 eh19 => ?_)
  have hI20 : Inv h19 := inv_cpy (n := 16) hI16 eh19 (fun _ => rfl)
  have f21 : fr S_Land_copyX_1_0 h h19 := fr_row f17 eh19 (fun _ => rfl)
  have C22 : rcp h h19 19 2 16 := rcp_row C18 eh19 (by decide)
  have C23 : rcp h h19 20 3 16 := rcp_now f17 (fun _ => rfl) eh19
  refine V_aload_n 1 d_Land_copyFrom_62 rfl rfl ?_
  refine V_getR fa_Land_18 sk_1 rfl d_Land_copyFrom_63 ?_
  refine V_iconst 0 d_Land_copyFrom_66 (by decide) ?_
  refine V_aload_n 0 d_Land_copyFrom_67 rfl rfl ?_
  refine V_getR fa_Land_18 sk_18 rfl d_Land_copyFrom_68 ?_
  refine V_iconst 0 d_Land_copyFrom_71 (by decide) ?_
  refine V_bipush 16 d_Land_copyFrom_72 (by decide) ?_
  refine N_acopy sk_4 sk_21 tc_0 tc_0 tc_16 (by omega) wa_Land_46 wA1 wA2 wA3 d_Land_copyFrom_74 (by decide) (Nat.le_of_ble_eq_true rfl) (fun h24 eh24 => ?_)
  have hI25 : Inv h24 := inv_cpy (n := 16) hI20 eh24 (fun _ => rfl)
  have f26 : fr S_Land_copyX_1_0 h h24 := fr_row f21 eh24 (fun _ => rfl)
  have C27 : rcp h h24 19 2 16 := rcp_row C22 eh24 (by decide)
  have C28 : rcp h h24 20 3 16 := rcp_row C23 eh24 (by decide)
  have C29 : rcp h h24 21 4 16 := rcp_now f21 (fun _ => rfl) eh24
  refine V_aload_n 1 d_Land_copyFrom_77 rfl rfl ?_
  refine V_getR fa_Land_21 sk_1 rfl d_Land_copyFrom_78 ?_
  refine V_iconst 0 d_Land_copyFrom_81 (by decide) ?_
  refine V_aload_n 0 d_Land_copyFrom_82 rfl rfl ?_
  refine V_getR fa_Land_21 sk_18 rfl d_Land_copyFrom_83 ?_
  refine V_iconst 0 d_Land_copyFrom_86 (by decide) ?_
  refine V_bipush 16 d_Land_copyFrom_87 (by decide) ?_
  refine N_acopy sk_5 sk_22 tc_0 tc_0 tc_16 (by omega) wa_Land_46 wA1 wA2 wA3 d_Land_copyFrom_89 (by decide) (Nat.le_of_ble_eq_true rfl) (fun h30 eh30 => ?_)
  have hI31 : Inv h30 := inv_cpy (n := 16) hI25 eh30 (fun _ => rfl)
  have f32 : fr S_Land_copyX_1_0 h h30 := fr_row f26 eh30 (fun _ => rfl)
  have C33 : rcp h h30 19 2 16 := rcp_row C27 eh30 (by decide)
  have C34 : rcp h h30 20 3 16 := rcp_row C28 eh30 (by decide)
  have C35 : rcp h h30 21 4 16 := rcp_row C29 eh30 (by decide)
  have C36 : rcp h h30 22 5 16 := rcp_now f26 (fun _ => rfl) eh30
  refine V_aload_n 1 d_Land_copyFrom_92 rfl rfl ?_
  refine V_getR fa_Land_24 sk_1 rfl d_Land_copyFrom_93 ?_
  refine V_iconst 0 d_Land_copyFrom_96 (by decide) ?_
  refine V_aload_n 0 d_Land_copyFrom_97 rfl rfl ?_
  refine V_getR fa_Land_24 sk_18 rfl d_Land_copyFrom_98 ?_
  refine V_iconst 0 d_Land_copyFrom_101 (by decide) ?_
  refine V_bipush 16 d_Land_copyFrom_102 (by decide) ?_
  refine N_acopy sk_6 sk_23 tc_0 tc_0 tc_16 (by omega) wa_Land_46 wA1 wA2 wA3 d_Land_copyFrom_104 (by decide) (Nat.le_of_ble_eq_true rfl) (fun h37 eh37 => ?_)
  have hI38 : Inv h37 := inv_cpy (n := 16) hI31 eh37 (fun _ => rfl)
  have f39 : fr S_Land_copyX_1_0 h h37 := fr_row f32 eh37 (fun _ => rfl)
  have C40 : rcp h h37 19 2 16 := rcp_row C33 eh37 (by decide)
  have C41 : rcp h h37 20 3 16 := rcp_row C34 eh37 (by decide)
  have C42 : rcp h h37 21 4 16 := rcp_row C35 eh37 (by decide)
  have C43 : rcp h h37 22 5 16 := rcp_row C36 eh37 (by decide)
  have C44 : rcp h h37 23 6 16 := rcp_now f32 (fun _ => rfl) eh37
  exact V_vret rfl d_Land_copyFrom_107 ⟨rfl, ⟨hI38, f39, ⟨((kn_row eh37 (kn_row eh30 (kn_row eh24 (kn_row eh19 (kn_row eh15 (kn_nei eh12 (kn_nei eh9 (kn_nei eh6 (kn_put eh3) (by decide)) (by decide)) (by decide)) (by decide)) (by decide)) (by decide)) (by decide)) (by decide)).trans wK.symm), ((kn_row eh37 (kn_row eh30 (kn_row eh24 (kn_row eh19 (kn_row eh15 (kn_nei eh12 (kn_nei eh9 (kn_put eh6) (by decide)) (by decide)) (by decide)) (by decide)) (by decide)) (by decide)) (by decide)).trans gK.symm), ((kn_row eh37 (kn_row eh30 (kn_row eh24 (kn_row eh19 (kn_row eh15 (kn_nei eh12 (kn_put eh9) (by decide)) (by decide)) (by decide)) (by decide)) (by decide)) (by decide)).trans xK.symm), ((kn_row eh37 (kn_row eh30 (kn_row eh24 (kn_row eh19 (kn_row eh15 (kn_put eh12) (by decide)) (by decide)) (by decide)) (by decide)) (by decide)).trans yK.symm), C40, C41, C42, C43, C44⟩⟩⟩
def S_Ledger_copyX_1_0 : List (Nat × Option Nat) := [(24, some 4), (25, none), (26, none), (27, none), (28, none)]
abbrev q_Ledger_copyX_1_0 (h : Hp) (t : Int32) (tZ : Int) : Option Value → Hp → Prop := pVd (fun h' => Inv h' ∧ fr S_Ledger_copyX_1_0 h h' ∧ (h'.1 24 4 = h.1 7 4 ∧ rcp h h' 25 8 4 ∧ rcp h h' 26 9 8 ∧ rcp h h' 27 10 8 ∧ rcp h h' 28 11 8))
set_option maxRecDepth 100000 in
theorem c_Ledger_copyX_1_0 (h : Hp) (hI : Inv h) (t : Int32) (tZ : Int) (tE : t.toInt = tZ) (tK : h.1 7 4 = t) : Ct y_Ledger_copyFrom b_Ledger_copyFrom 2 none 1 60 [.ref 24, .ref 7] h (q_Ledger_copyX_1_0 h t tZ) := by
  refine ct_ow R_Ledger [some (.ref 24), some (.ref 7)] rfl (by decide) rfl (Nat.le_of_ble_eq_true rfl) ?_
  have f0 : fr S_Ledger_copyX_1_0 h h := fr_rf
  have g1 : 0 ≤ tZ ∧ tZ ≤ 8 := inv_at hI tE tK.symm rfl
  refine V_aload_n 1 d_Ledger_copyFrom_0 rfl rfl ?_
  refine V_getR fa_Ledger_9 sk_7 rfl d_Ledger_copyFrom_1 ?_
  refine V_iconst 0 d_Ledger_copyFrom_4 (by decide) ?_
  refine V_aload_n 0 d_Ledger_copyFrom_5 rfl rfl ?_
  refine V_getR fa_Ledger_9 sk_24 rfl d_Ledger_copyFrom_6 ?_
  refine V_iconst 0 d_Ledger_copyFrom_9 (by decide) ?_
  refine V_iconst 4 d_Ledger_copyFrom_10 (by decide) ?_
  refine N_acopy sk_8 sk_25 tc_0 tc_0 tc_4 (by omega) wa_Ledger_34 wA1 wA2 wA3 d_Ledger_copyFrom_11 (by decide) (Nat.le_of_ble_eq_true rfl) (fun h2 eh2 => ?_)
  have hI3 : Inv h2 := inv_cpy (n := 4) hI eh2 (fun _ => rfl)
  have f4 : fr S_Ledger_copyX_1_0 h h2 := fr_row f0 eh2 (fun _ => rfl)
  have C5 : rcp h h2 25 8 4 := rcp_now f0 (fun _ => rfl) eh2
  refine V_aload_n 1 d_Ledger_copyFrom_14 rfl rfl ?_
  refine V_getR fa_Ledger_15 sk_7 rfl d_Ledger_copyFrom_15 ?_
  refine V_iconst 0 d_Ledger_copyFrom_18 (by decide) ?_
  refine V_aload_n 0 d_Ledger_copyFrom_19 rfl rfl ?_
  refine V_getR fa_Ledger_15 sk_24 rfl d_Ledger_copyFrom_20 ?_
  refine V_iconst 0 d_Ledger_copyFrom_23 (by decide) ?_
  refine V_bipush 8 d_Ledger_copyFrom_24 (by decide) ?_
  refine N_acopy sk_9 sk_26 tc_0 tc_0 tc_8 (by omega) wa_Ledger_34 wA1 wA2 wA3 d_Ledger_copyFrom_26 (by decide) (Nat.le_of_ble_eq_true rfl) (fun h6 eh6 => ?_)
  have hI7 : Inv h6 := inv_cpy (n := 8) hI3 eh6 (fun _ => rfl)
  have f8 : fr S_Ledger_copyX_1_0 h h6 := fr_row f4 eh6 (fun _ => rfl)
  have C9 : rcp h h6 25 8 4 := rcp_row C5 eh6 (by decide)
  have C10 : rcp h h6 26 9 8 := rcp_now f4 (fun _ => rfl) eh6
  refine V_aload_n 1 d_Ledger_copyFrom_29 rfl rfl ?_
  refine V_getR fa_Ledger_18 sk_7 rfl d_Ledger_copyFrom_30 ?_
  refine V_iconst 0 d_Ledger_copyFrom_33 (by decide) ?_
  refine V_aload_n 0 d_Ledger_copyFrom_34 rfl rfl ?_
  refine V_getR fa_Ledger_18 sk_24 rfl d_Ledger_copyFrom_35 ?_
  refine V_iconst 0 d_Ledger_copyFrom_38 (by decide) ?_
  refine V_bipush 8 d_Ledger_copyFrom_39 (by decide) ?_
  refine N_acopy sk_10 sk_27 tc_0 tc_0 tc_8 (by omega) wa_Ledger_34 wA1 wA2 wA3 d_Ledger_copyFrom_41 (by decide) (Nat.le_of_ble_eq_true rfl) (fun h11 eh11 => ?_)
  have hI12 : Inv h11 := inv_cpy (n := 8) hI7 eh11 (fun _ => rfl)
  have f13 : fr S_Ledger_copyX_1_0 h h11 := fr_row f8 eh11 (fun _ => rfl)
  have C14 : rcp h h11 25 8 4 := rcp_row C9 eh11 (by decide)
  have C15 : rcp h h11 26 9 8 := rcp_row C10 eh11 (by decide)
  have C16 : rcp h h11 27 10 8 := rcp_now f8 (fun _ => rfl) eh11
  refine V_aload_n 1 d_Ledger_copyFrom_44 rfl rfl ?_
  refine V_getR fa_Ledger_21 sk_7 rfl d_Ledger_copyFrom_45 ?_
  refine V_iconst 0 d_Ledger_copyFrom_48 (by decide) ?_
  refine V_aload_n 0 d_Ledger_copyFrom_49 rfl rfl ?_
  refine V_getR fa_Ledger_21 sk_24 rfl d_Ledger_copyFrom_50 ?_
  refine V_iconst 0 d_Ledger_copyFrom_53 (by decide) ?_
  refine V_bipush 8 d_Ledger_copyFrom_54 (by decide) ?_
  refine N_acopy sk_11 sk_28 tc_0 tc_0 tc_8 (by omega) wa_Ledger_34 wA1 wA2 wA3 d_Ledger_copyFrom_56 (by decide) (Nat.le_of_ble_eq_true rfl) (fun h17 eh17 => ?_)
  have hI18 : Inv h17 := inv_cpy (n := 8) hI12 eh17 (fun _ => rfl)
  have f19 : fr S_Ledger_copyX_1_0 h h17 := fr_row f13 eh17 (fun _ => rfl)
  have C20 : rcp h h17 25 8 4 := rcp_row C14 eh17 (by decide)
  have C21 : rcp h h17 26 9 8 := rcp_row C15 eh17 (by decide)
  have C22 : rcp h h17 27 10 8 := rcp_row C16 eh17 (by decide)
  have C23 : rcp h h17 28 11 8 := rcp_now f13 (fun _ => rfl) eh17
  refine V_aload_n 0 d_Ledger_copyFrom_59 rfl rfl ?_
  refine V_aload_n 1 d_Ledger_copyFrom_60 rfl rfl ?_
  refine N_getK fa_Ledger_30 sk_7 rfl d_Ledger_copyFrom_61 (kn_row eh17 (kn_row eh11 (kn_row eh6 (kn_row eh2 tK (by decide)) (by decide)) (by decide)) (by decide)) ?_
  refine N_putI fp_Ledger_30 sk_24 rfl d_Ledger_copyFrom_64 (fun h24 eh24 => ?_)
  have hI25 : Inv h24 := inv_put (lo := 0) (hi := 8) hI18 eh24 rfl tE (by omega)
  have f26 : fr S_Ledger_copyX_1_0 h h24 := fr_put f19 eh24 rfl
  have C27 : rcp h h24 25 8 4 := rcp_put C20 eh24 (by decide)
  have C28 : rcp h h24 26 9 8 := rcp_put C21 eh24 (by decide)
  have C29 : rcp h h24 27 10 8 := rcp_put C22 eh24 (by decide)
  have C30 : rcp h h24 28 11 8 := rcp_put C23 eh24 (by decide)
  exact V_vret rfl d_Ledger_copyFrom_67 ⟨rfl, ⟨hI25, f26, ⟨((kn_put eh24).trans tK.symm), C27, C28, C29, C30⟩⟩⟩
def S_Sights_copyX_1_0 : List (Nat × Option Nat) := [(29, some 4), (30, none), (31, none), (32, none), (33, none)]
abbrev q_Sights_copyX_1_0 (h : Hp) (t : Int32) (tZ : Int) : Option Value → Hp → Prop := pVd (fun h' => Inv h' ∧ fr S_Sights_copyX_1_0 h h' ∧ (h'.1 29 4 = h.1 12 4 ∧ rcp h h' 30 13 8 ∧ rcp h h' 31 14 8 ∧ rcp h h' 32 15 8 ∧ rcp h h' 33 16 8))
set_option maxRecDepth 100000 in
theorem c_Sights_copyX_1_0 (h : Hp) (hI : Inv h) (t : Int32) (tZ : Int) (tE : t.toInt = tZ) (tK : h.1 12 4 = t) : Ct y_Sights_copyFrom b_Sights_copyFrom 2 none 1 60 [.ref 29, .ref 12] h (q_Sights_copyX_1_0 h t tZ) := by
  refine ct_ow R_Sights [some (.ref 29), some (.ref 12)] rfl (by decide) rfl (Nat.le_of_ble_eq_true rfl) ?_
  have f0 : fr S_Sights_copyX_1_0 h h := fr_rf
  have g1 : 0 ≤ tZ ∧ tZ ≤ 8 := inv_at hI tE tK.symm rfl
  refine V_aload_n 1 d_Sights_copyFrom_0 rfl rfl ?_
  refine V_getR fa_Sights_9 sk_12 rfl d_Sights_copyFrom_1 ?_
  refine V_iconst 0 d_Sights_copyFrom_4 (by decide) ?_
  refine V_aload_n 0 d_Sights_copyFrom_5 rfl rfl ?_
  refine V_getR fa_Sights_9 sk_29 rfl d_Sights_copyFrom_6 ?_
  refine V_iconst 0 d_Sights_copyFrom_9 (by decide) ?_
  refine V_bipush 8 d_Sights_copyFrom_10 (by decide) ?_
  refine N_acopy sk_13 sk_30 tc_0 tc_0 tc_8 (by omega) wa_Sights_24 wA1 wA2 wA3 d_Sights_copyFrom_12 (by decide) (Nat.le_of_ble_eq_true rfl) (fun h2 eh2 => ?_)
  have hI3 : Inv h2 := inv_cpy (n := 8) hI eh2 (fun _ => rfl)
  have f4 : fr S_Sights_copyX_1_0 h h2 := fr_row f0 eh2 (fun _ => rfl)
  have C5 : rcp h h2 30 13 8 := rcp_now f0 (fun _ => rfl) eh2
  refine V_aload_n 1 d_Sights_copyFrom_15 rfl rfl ?_
  refine V_getR fa_Sights_15 sk_12 rfl d_Sights_copyFrom_16 ?_
  refine V_iconst 0 d_Sights_copyFrom_19 (by decide) ?_
  refine V_aload_n 0 d_Sights_copyFrom_20 rfl rfl ?_
  refine V_getR fa_Sights_15 sk_29 rfl d_Sights_copyFrom_21 ?_
  refine V_iconst 0 d_Sights_copyFrom_24 (by decide) ?_
  refine V_bipush 8 d_Sights_copyFrom_25 (by decide) ?_
  refine N_acopy sk_14 sk_31 tc_0 tc_0 tc_8 (by omega) wa_Sights_24 wA1 wA2 wA3 d_Sights_copyFrom_27 (by decide) (Nat.le_of_ble_eq_true rfl) (fun h6 eh6 => ?_)
  have hI7 : Inv h6 := inv_cpy (n := 8) hI3 eh6 (fun _ => rfl)
  have f8 : fr S_Sights_copyX_1_0 h h6 := fr_row f4 eh6 (fun _ => rfl)
  have C9 : rcp h h6 30 13 8 := rcp_row C5 eh6 (by decide)
  have C10 : rcp h h6 31 14 8 := rcp_now f4 (fun _ => rfl) eh6
  refine V_aload_n 1 d_Sights_copyFrom_30 rfl rfl ?_
  refine V_getR fa_Sights_18 sk_12 rfl d_Sights_copyFrom_31 ?_
  refine V_iconst 0 d_Sights_copyFrom_34 (by decide) ?_
  refine V_aload_n 0 d_Sights_copyFrom_35 rfl rfl ?_
  refine V_getR fa_Sights_18 sk_29 rfl d_Sights_copyFrom_36 ?_
  refine V_iconst 0 d_Sights_copyFrom_39 (by decide) ?_
  refine V_bipush 8 d_Sights_copyFrom_40 (by decide) ?_
  refine N_acopy sk_15 sk_32 tc_0 tc_0 tc_8 (by omega) wa_Sights_24 wA1 wA2 wA3 d_Sights_copyFrom_42 (by decide) (Nat.le_of_ble_eq_true rfl) (fun h11 eh11 => ?_)
  have hI12 : Inv h11 := inv_cpy (n := 8) hI7 eh11 (fun _ => rfl)
  have f13 : fr S_Sights_copyX_1_0 h h11 := fr_row f8 eh11 (fun _ => rfl)
  have C14 : rcp h h11 30 13 8 := rcp_row C9 eh11 (by decide)
  have C15 : rcp h h11 31 14 8 := rcp_row C10 eh11 (by decide)
  have C16 : rcp h h11 32 15 8 := rcp_now f8 (fun _ => rfl) eh11
  refine V_aload_n 1 d_Sights_copyFrom_45 rfl rfl ?_
  refine V_getR fa_Sights_21 sk_12 rfl d_Sights_copyFrom_46 ?_
  refine V_iconst 0 d_Sights_copyFrom_49 (by decide) ?_
  refine V_aload_n 0 d_Sights_copyFrom_50 rfl rfl ?_
  refine V_getR fa_Sights_21 sk_29 rfl d_Sights_copyFrom_51 ?_
  refine V_iconst 0 d_Sights_copyFrom_54 (by decide) ?_
  refine V_bipush 8 d_Sights_copyFrom_55 (by decide) ?_
  refine N_acopy sk_16 sk_33 tc_0 tc_0 tc_8 (by omega) wa_Sights_24 wA1 wA2 wA3 d_Sights_copyFrom_57 (by decide) (Nat.le_of_ble_eq_true rfl) (fun h17 eh17 => ?_)
  have hI18 : Inv h17 := inv_cpy (n := 8) hI12 eh17 (fun _ => rfl)
  have f19 : fr S_Sights_copyX_1_0 h h17 := fr_row f13 eh17 (fun _ => rfl)
  have C20 : rcp h h17 30 13 8 := rcp_row C14 eh17 (by decide)
  have C21 : rcp h h17 31 14 8 := rcp_row C15 eh17 (by decide)
  have C22 : rcp h h17 32 15 8 := rcp_row C16 eh17 (by decide)
  have C23 : rcp h h17 33 16 8 := rcp_now f13 (fun _ => rfl) eh17
  refine V_aload_n 0 d_Sights_copyFrom_60 rfl rfl ?_
  refine V_aload_n 1 d_Sights_copyFrom_61 rfl rfl ?_
  refine N_getK fa_Sights_30 sk_12 rfl d_Sights_copyFrom_62 (kn_row eh17 (kn_row eh11 (kn_row eh6 (kn_row eh2 tK (by decide)) (by decide)) (by decide)) (by decide)) ?_
  refine N_putI fp_Sights_30 sk_29 rfl d_Sights_copyFrom_65 (fun h24 eh24 => ?_)
  have hI25 : Inv h24 := inv_put (lo := 0) (hi := 8) hI18 eh24 rfl tE (by omega)
  have f26 : fr S_Sights_copyX_1_0 h h24 := fr_put f19 eh24 rfl
  have C27 : rcp h h24 30 13 8 := rcp_put C20 eh24 (by decide)
  have C28 : rcp h h24 31 14 8 := rcp_put C21 eh24 (by decide)
  have C29 : rcp h h24 32 15 8 := rcp_put C22 eh24 (by decide)
  have C30 : rcp h h24 33 16 8 := rcp_put C23 eh24 (by decide)
  exact V_vret rfl d_Sights_copyFrom_68 ⟨rfl, ⟨hI25, f26, ⟨((kn_put eh24).trans tK.symm), C27, C28, C29, C30⟩⟩⟩
def S_County_copyX_1_0 : List (Nat × Option Nat) := [(17, some 3), (17, some 4), (18, none), (19, none), (20, none), (21, none), (22, none), (23, none), (24, some 4), (25, none), (26, none), (27, none), (28, none), (29, some 4), (30, none), (31, none), (32, none), (33, none)]
abbrev q_County_copyX_1_0 (h : Hp) (n : Int32) (nZ : Int) (m : Int32) (mZ : Int) : Option Value → Hp → Prop := pVd (fun h' => Inv h' ∧ fr S_County_copyX_1_0 h h' ∧ (cpy h h' 17 0))
set_option maxRecDepth 100000 in
theorem c_County_copyX_1_0 (h : Hp) (hI : Inv h) (n : Int32) (nZ : Int) (nE : n.toInt = nZ) (nK : h.1 0 3 = n) (m : Int32) (mZ : Int) (mE : m.toInt = mZ) (mK : h.1 0 4 = m) : Ct y_County_copyFrom b_County_copyFrom 2 none 2 81 [.ref 17, .ref 0] h (q_County_copyX_1_0 h n nZ m mZ) := by
  refine ct_ow R_County [some (.ref 17), some (.ref 0)] rfl (by decide) rfl (Nat.le_of_ble_eq_true rfl) ?_
  have f0 : fr S_County_copyX_1_0 h h := fr_rf
  refine V_aload_n 0 d_County_copyFrom_0 rfl rfl ?_
  refine V_getR fa_County_12 sk_17 rfl d_County_copyFrom_1 ?_
  refine V_aload_n 1 d_County_copyFrom_4 rfl rfl ?_
  refine V_getR fa_County_12 sk_0 rfl d_County_copyFrom_5 ?_
  obtain ⟨z1, z1Z, z1E, z1e⟩ : ∃ (y : Int32) (Y : Int), y.toInt = Y ∧ y = h.1 1 0 := ⟨_, _, rfl, rfl⟩
  have g2 : 2 ≤ z1Z ∧ z1Z ≤ 4 := inv_at hI z1E z1e rfl
  obtain ⟨z3, z3Z, z3E, z3e⟩ : ∃ (y : Int32) (Y : Int), y.toInt = Y ∧ y = h.1 1 1 := ⟨_, _, rfl, rfl⟩
  have g4 : 2 ≤ z3Z ∧ z3Z ≤ 4 := inv_at hI z3E z3e rfl
  obtain ⟨z5, z5Z, z5E, z5e⟩ : ∃ (y : Int32) (Y : Int), y.toInt = Y ∧ y = h.1 1 2 := ⟨_, _, rfl, rfl⟩
  obtain ⟨z6, z6Z, z6E, z6e⟩ : ∃ (y : Int32) (Y : Int), y.toInt = Y ∧ y = h.1 1 3 := ⟨_, _, rfl, rfl⟩
  refine N_callVV [.ref 1] [] cv_County_47 sk_18 rfl d_County_copyFrom_8 rfl (Nat.le_of_ble_eq_true rfl) (by decide) (by decide) (c_Land_copyX_1_0 h hI z1 z1Z z1E z1e.symm z3 z3Z z3E z3e.symm z5 z5Z z5E z5e.symm z6 z6Z z6E z6e.symm) (fun h8 p9 => ?_)
  obtain ⟨hI10, fh8, p9⟩ := p9
  have f11 : fr S_County_copyX_1_0 h h8 := fr_call f0 fh8 rfl
  have qL := p9
  refine V_aload_n 0 d_County_copyFrom_11 rfl rfl ?_
  refine V_getR fa_County_21 sk_17 rfl d_County_copyFrom_12 ?_
  refine V_aload_n 1 d_County_copyFrom_15 rfl rfl ?_
  refine V_getR fa_County_21 sk_0 rfl d_County_copyFrom_16 ?_
  obtain ⟨z12, z12Z, z12E, z12e⟩ : ∃ (y : Int32) (Y : Int), y.toInt = Y ∧ y = h8.1 7 4 := ⟨_, _, rfl, rfl⟩
  have g13 : 0 ≤ z12Z ∧ z12Z ≤ 8 := inv_at hI10 z12E z12e rfl
  refine N_callVV [.ref 7] [] cv_County_51 sk_24 rfl d_County_copyFrom_19 rfl (Nat.le_of_ble_eq_true rfl) (by decide) (by decide) (c_Ledger_copyX_1_0 h8 hI10 z12 z12Z z12E z12e.symm) (fun h15 p16 => ?_)
  obtain ⟨hI17, fh15, p16⟩ := p16
  have f18 : fr S_County_copyX_1_0 h h15 := fr_call f11 fh15 rfl
  have qG := p16
  refine V_aload_n 0 d_County_copyFrom_22 rfl rfl ?_
  refine V_getR fa_County_28 sk_17 rfl d_County_copyFrom_23 ?_
  refine V_aload_n 1 d_County_copyFrom_26 rfl rfl ?_
  refine V_getR fa_County_28 sk_0 rfl d_County_copyFrom_27 ?_
  obtain ⟨z19, z19Z, z19E, z19e⟩ : ∃ (y : Int32) (Y : Int), y.toInt = Y ∧ y = h15.1 12 4 := ⟨_, _, rfl, rfl⟩
  have g20 : 0 ≤ z19Z ∧ z19Z ≤ 8 := inv_at hI17 z19E z19e rfl
  refine N_callVV [.ref 12] [] cv_County_54 sk_29 rfl d_County_copyFrom_30 rfl (Nat.le_of_ble_eq_true rfl) (by decide) (by decide) (c_Sights_copyX_1_0 h15 hI17 z19 z19Z z19E z19e.symm) (fun h22 p23 => ?_)
  obtain ⟨hI24, fh22, p23⟩ := p23
  have f25 : fr S_County_copyX_1_0 h h22 := fr_call f18 fh22 rfl
  have qS := p23
  refine V_aload_n 0 d_County_copyFrom_33 rfl rfl ?_
  refine V_aload_n 1 d_County_copyFrom_34 rfl rfl ?_
  refine N_getK fa_County_41 sk_0 rfl d_County_copyFrom_35 (kn_call fh22 (kn_call fh15 (kn_call fh8 nK rfl) rfl) rfl) ?_
  refine N_putI fp_County_41 sk_17 rfl d_County_copyFrom_38 (fun h26 eh26 => ?_)
  have hI27 : Inv h26 := inv_full hI24 eh26 rfl
  have f28 : fr S_County_copyX_1_0 h h26 := fr_put f25 eh26 rfl
  refine V_aload_n 0 d_County_copyFrom_41 rfl rfl ?_
  refine V_aload_n 1 d_County_copyFrom_42 rfl rfl ?_
  refine N_getK fa_County_44 sk_0 rfl d_County_copyFrom_43 (kn_ne eh26 (kn_call fh22 (kn_call fh15 (kn_call fh8 mK rfl) rfl) rfl) (by decide)) ?_
  refine N_putI fp_County_44 sk_17 rfl d_County_copyFrom_46 (fun h29 eh29 => ?_)
  have hI30 : Inv h29 := inv_full hI27 eh29 rfl
  have f31 : fr S_County_copyX_1_0 h h29 := fr_put f28 eh29 rfl
  exact V_vret rfl d_County_copyFrom_49 ⟨rfl, ⟨hI30, f31, (cpy_of (a := 17) (b := 0) qL fh15 qG fh22 qS fh8 eh26 eh29 nK mK rfl rfl rfl rfl)⟩⟩
def S_Land_copyX_0_1 : List (Nat × Option Nat) := [(1, none), (2, none), (3, none), (4, none), (5, none), (6, none)]
abbrev q_Land_copyX_0_1 (h : Hp) (w : Int32) (wZ : Int) (g : Int32) (gZ : Int) (x : Int32) (xZ : Int) (y : Int32) (yZ : Int) : Option Value → Hp → Prop := pVd (fun h' => Inv h' ∧ fr S_Land_copyX_0_1 h h' ∧ (h'.1 1 0 = h.1 18 0 ∧ h'.1 1 1 = h.1 18 1 ∧ h'.1 1 2 = h.1 18 2 ∧ h'.1 1 3 = h.1 18 3 ∧ rcp h h' 2 19 16 ∧ rcp h h' 3 20 16 ∧ rcp h h' 4 21 16 ∧ rcp h h' 5 22 16 ∧ rcp h h' 6 23 16))
set_option maxRecDepth 100000 in
theorem c_Land_copyX_0_1 (h : Hp) (hI : Inv h) (w : Int32) (wZ : Int) (wE : w.toInt = wZ) (wK : h.1 18 0 = w) (g : Int32) (gZ : Int) (gE : g.toInt = gZ) (gK : h.1 18 1 = g) (x : Int32) (xZ : Int) (xE : x.toInt = xZ) (xK : h.1 18 2 = x) (y : Int32) (yZ : Int) (yE : y.toInt = yZ) (yK : h.1 18 3 = y) : Ct y_Land_copyFrom b_Land_copyFrom 2 none 1 60 [.ref 1, .ref 18] h (q_Land_copyX_0_1 h w wZ g gZ x xZ y yZ) := by
  refine ct_ow R_Land [some (.ref 1), some (.ref 18)] rfl (by decide) rfl (Nat.le_of_ble_eq_true rfl) ?_
  have f0 : fr S_Land_copyX_0_1 h h := fr_rf
  have g1 : 2 ≤ wZ ∧ wZ ≤ 4 := inv_at hI wE wK.symm rfl
  have g2 : 2 ≤ gZ ∧ gZ ≤ 4 := inv_at hI gE gK.symm rfl
  refine V_aload_n 0 d_Land_copyFrom_0 rfl rfl ?_
  refine V_aload_n 1 d_Land_copyFrom_1 rfl rfl ?_
  refine N_getK fa_Land_27 sk_18 rfl d_Land_copyFrom_2 wK ?_
  refine N_putI fp_Land_27 sk_1 rfl d_Land_copyFrom_5 (fun h3 eh3 => ?_)
  have hI4 : Inv h3 := inv_put (lo := 2) (hi := 4) hI eh3 rfl wE (by omega)
  have f5 : fr S_Land_copyX_0_1 h h3 := fr_put f0 eh3 rfl
  refine V_aload_n 0 d_Land_copyFrom_8 rfl rfl ?_
  refine V_aload_n 1 d_Land_copyFrom_9 rfl rfl ?_
  refine N_getK fa_Land_31 sk_18 rfl d_Land_copyFrom_10 (kn_ne eh3 gK (by decide)) ?_
  refine N_putI fp_Land_31 sk_1 rfl d_Land_copyFrom_13 (fun h6 eh6 => ?_)
  have hI7 : Inv h6 := inv_put (lo := 2) (hi := 4) hI4 eh6 rfl gE (by omega)
  have f8 : fr S_Land_copyX_0_1 h h6 := fr_put f5 eh6 rfl
  refine V_aload_n 0 d_Land_copyFrom_16 rfl rfl ?_
  refine V_aload_n 1 d_Land_copyFrom_17 rfl rfl ?_
  refine N_getK fa_Land_34 sk_18 rfl d_Land_copyFrom_18 (kn_ne eh6 (kn_ne eh3 xK (by decide)) (by decide)) ?_
  refine N_putI fp_Land_34 sk_1 rfl d_Land_copyFrom_21 (fun h9 eh9 => ?_)
  have hI10 : Inv h9 := inv_full hI7 eh9 rfl
  have f11 : fr S_Land_copyX_0_1 h h9 := fr_put f8 eh9 rfl
  refine V_aload_n 0 d_Land_copyFrom_24 rfl rfl ?_
  refine V_aload_n 1 d_Land_copyFrom_25 rfl rfl ?_
  refine N_getK fa_Land_37 sk_18 rfl d_Land_copyFrom_26 (kn_ne eh9 (kn_ne eh6 (kn_ne eh3 yK (by decide)) (by decide)) (by decide)) ?_
  refine N_putI fp_Land_37 sk_1 rfl d_Land_copyFrom_29 (fun h12 eh12 => ?_)
  have hI13 : Inv h12 := inv_full hI10 eh12 rfl
  have f14 : fr S_Land_copyX_0_1 h h12 := fr_put f11 eh12 rfl
  refine V_aload_n 1 d_Land_copyFrom_32 rfl rfl ?_
  refine V_getR fa_Land_9 sk_18 rfl d_Land_copyFrom_33 ?_
  refine V_iconst 0 d_Land_copyFrom_36 (by decide) ?_
  refine V_aload_n 0 d_Land_copyFrom_37 rfl rfl ?_
  refine V_getR fa_Land_9 sk_1 rfl d_Land_copyFrom_38 ?_
  refine V_iconst 0 d_Land_copyFrom_41 (by decide) ?_
  refine V_bipush 16 d_Land_copyFrom_42 (by decide) ?_
  refine N_acopy sk_19 sk_2 tc_0 tc_0 tc_16 (by omega) wa_Land_46 wA1 wA2 wA3 d_Land_copyFrom_44 (by decide) (Nat.le_of_ble_eq_true rfl) (fun h15 eh15 => ?_)
  have hI16 : Inv h15 := inv_cpy (n := 16) hI13 eh15 (fun _ => rfl)
  have f17 : fr S_Land_copyX_0_1 h h15 := fr_row f14 eh15 (fun _ => rfl)
  have C18 : rcp h h15 2 19 16 := rcp_now f14 (fun _ => rfl) eh15
  refine V_aload_n 1 d_Land_copyFrom_47 rfl rfl ?_
  refine V_getR fa_Land_15 sk_18 rfl d_Land_copyFrom_48 ?_
  refine V_iconst 0 d_Land_copyFrom_51 (by decide) ?_
  refine V_aload_n 0 d_Land_copyFrom_52 rfl rfl ?_
  refine V_getR fa_Land_15 sk_1 rfl d_Land_copyFrom_53 ?_
  refine V_iconst 0 d_Land_copyFrom_56 (by decide) ?_
  refine V_bipush 16 d_Land_copyFrom_57 (by decide) ?_
  refine N_acopy sk_20 sk_3 tc_0 tc_0 tc_16 (by omega) wa_Land_46 wA1 wA2 wA3 d_Land_copyFrom_59 (by decide) (Nat.le_of_ble_eq_true rfl) (fun h19 eh19 => ?_)
  have hI20 : Inv h19 := inv_cpy (n := 16) hI16 eh19 (fun _ => rfl)
  have f21 : fr S_Land_copyX_0_1 h h19 := fr_row f17 eh19 (fun _ => rfl)
  have C22 : rcp h h19 2 19 16 := rcp_row C18 eh19 (by decide)
  have C23 : rcp h h19 3 20 16 := rcp_now f17 (fun _ => rfl) eh19
  refine V_aload_n 1 d_Land_copyFrom_62 rfl rfl ?_
  refine V_getR fa_Land_18 sk_18 rfl d_Land_copyFrom_63 ?_
  refine V_iconst 0 d_Land_copyFrom_66 (by decide) ?_
  refine V_aload_n 0 d_Land_copyFrom_67 rfl rfl ?_
  refine V_getR fa_Land_18 sk_1 rfl d_Land_copyFrom_68 ?_
  refine V_iconst 0 d_Land_copyFrom_71 (by decide) ?_
  refine V_bipush 16 d_Land_copyFrom_72 (by decide) ?_
  refine N_acopy sk_21 sk_4 tc_0 tc_0 tc_16 (by omega) wa_Land_46 wA1 wA2 wA3 d_Land_copyFrom_74 (by decide) (Nat.le_of_ble_eq_true rfl) (fun h24 eh24 => ?_)
  have hI25 : Inv h24 := inv_cpy (n := 16) hI20 eh24 (fun _ => rfl)
  have f26 : fr S_Land_copyX_0_1 h h24 := fr_row f21 eh24 (fun _ => rfl)
  have C27 : rcp h h24 2 19 16 := rcp_row C22 eh24 (by decide)
  have C28 : rcp h h24 3 20 16 := rcp_row C23 eh24 (by decide)
  have C29 : rcp h h24 4 21 16 := rcp_now f21 (fun _ => rfl) eh24
  refine V_aload_n 1 d_Land_copyFrom_77 rfl rfl ?_
  refine V_getR fa_Land_21 sk_18 rfl d_Land_copyFrom_78 ?_
  refine V_iconst 0 d_Land_copyFrom_81 (by decide) ?_
  refine V_aload_n 0 d_Land_copyFrom_82 rfl rfl ?_
  refine V_getR fa_Land_21 sk_1 rfl d_Land_copyFrom_83 ?_
  refine V_iconst 0 d_Land_copyFrom_86 (by decide) ?_
  refine V_bipush 16 d_Land_copyFrom_87 (by decide) ?_
  refine N_acopy sk_22 sk_5 tc_0 tc_0 tc_16 (by omega) wa_Land_46 wA1 wA2 wA3 d_Land_copyFrom_89 (by decide) (Nat.le_of_ble_eq_true rfl) (fun h30 eh30 => ?_)
  have hI31 : Inv h30 := inv_cpy (n := 16) hI25 eh30 (fun _ => rfl)
  have f32 : fr S_Land_copyX_0_1 h h30 := fr_row f26 eh30 (fun _ => rfl)
  have C33 : rcp h h30 2 19 16 := rcp_row C27 eh30 (by decide)
  have C34 : rcp h h30 3 20 16 := rcp_row C28 eh30 (by decide)
  have C35 : rcp h h30 4 21 16 := rcp_row C29 eh30 (by decide)
  have C36 : rcp h h30 5 22 16 := rcp_now f26 (fun _ => rfl) eh30
  refine V_aload_n 1 d_Land_copyFrom_92 rfl rfl ?_
  refine V_getR fa_Land_24 sk_18 rfl d_Land_copyFrom_93 ?_
  refine V_iconst 0 d_Land_copyFrom_96 (by decide) ?_
  refine V_aload_n 0 d_Land_copyFrom_97 rfl rfl ?_
  refine V_getR fa_Land_24 sk_1 rfl d_Land_copyFrom_98 ?_
  refine V_iconst 0 d_Land_copyFrom_101 (by decide) ?_
  refine V_bipush 16 d_Land_copyFrom_102 (by decide) ?_
  refine N_acopy sk_23 sk_6 tc_0 tc_0 tc_16 (by omega) wa_Land_46 wA1 wA2 wA3 d_Land_copyFrom_104 (by decide) (Nat.le_of_ble_eq_true rfl) (fun h37 eh37 => ?_)
  have hI38 : Inv h37 := inv_cpy (n := 16) hI31 eh37 (fun _ => rfl)
  have f39 : fr S_Land_copyX_0_1 h h37 := fr_row f32 eh37 (fun _ => rfl)
  have C40 : rcp h h37 2 19 16 := rcp_row C33 eh37 (by decide)
  have C41 : rcp h h37 3 20 16 := rcp_row C34 eh37 (by decide)
  have C42 : rcp h h37 4 21 16 := rcp_row C35 eh37 (by decide)
  have C43 : rcp h h37 5 22 16 := rcp_row C36 eh37 (by decide)
  have C44 : rcp h h37 6 23 16 := rcp_now f32 (fun _ => rfl) eh37
  exact V_vret rfl d_Land_copyFrom_107 ⟨rfl, ⟨hI38, f39, ⟨((kn_row eh37 (kn_row eh30 (kn_row eh24 (kn_row eh19 (kn_row eh15 (kn_nei eh12 (kn_nei eh9 (kn_nei eh6 (kn_put eh3) (by decide)) (by decide)) (by decide)) (by decide)) (by decide)) (by decide)) (by decide)) (by decide)).trans wK.symm), ((kn_row eh37 (kn_row eh30 (kn_row eh24 (kn_row eh19 (kn_row eh15 (kn_nei eh12 (kn_nei eh9 (kn_put eh6) (by decide)) (by decide)) (by decide)) (by decide)) (by decide)) (by decide)) (by decide)).trans gK.symm), ((kn_row eh37 (kn_row eh30 (kn_row eh24 (kn_row eh19 (kn_row eh15 (kn_nei eh12 (kn_put eh9) (by decide)) (by decide)) (by decide)) (by decide)) (by decide)) (by decide)).trans xK.symm), ((kn_row eh37 (kn_row eh30 (kn_row eh24 (kn_row eh19 (kn_row eh15 (kn_put eh12) (by decide)) (by decide)) (by decide)) (by decide)) (by decide)).trans yK.symm), C40, C41, C42, C43, C44⟩⟩⟩
def S_Ledger_copyX_0_1 : List (Nat × Option Nat) := [(7, some 4), (8, none), (9, none), (10, none), (11, none)]
abbrev q_Ledger_copyX_0_1 (h : Hp) (t : Int32) (tZ : Int) : Option Value → Hp → Prop := pVd (fun h' => Inv h' ∧ fr S_Ledger_copyX_0_1 h h' ∧ (h'.1 7 4 = h.1 24 4 ∧ rcp h h' 8 25 4 ∧ rcp h h' 9 26 8 ∧ rcp h h' 10 27 8 ∧ rcp h h' 11 28 8))
set_option maxRecDepth 100000 in
theorem c_Ledger_copyX_0_1 (h : Hp) (hI : Inv h) (t : Int32) (tZ : Int) (tE : t.toInt = tZ) (tK : h.1 24 4 = t) : Ct y_Ledger_copyFrom b_Ledger_copyFrom 2 none 1 60 [.ref 7, .ref 24] h (q_Ledger_copyX_0_1 h t tZ) := by
  refine ct_ow R_Ledger [some (.ref 7), some (.ref 24)] rfl (by decide) rfl (Nat.le_of_ble_eq_true rfl) ?_
  have f0 : fr S_Ledger_copyX_0_1 h h := fr_rf
  have g1 : 0 ≤ tZ ∧ tZ ≤ 8 := inv_at hI tE tK.symm rfl
  refine V_aload_n 1 d_Ledger_copyFrom_0 rfl rfl ?_
  refine V_getR fa_Ledger_9 sk_24 rfl d_Ledger_copyFrom_1 ?_
  refine V_iconst 0 d_Ledger_copyFrom_4 (by decide) ?_
  refine V_aload_n 0 d_Ledger_copyFrom_5 rfl rfl ?_
  refine V_getR fa_Ledger_9 sk_7 rfl d_Ledger_copyFrom_6 ?_
  refine V_iconst 0 d_Ledger_copyFrom_9 (by decide) ?_
  refine V_iconst 4 d_Ledger_copyFrom_10 (by decide) ?_
  refine N_acopy sk_25 sk_8 tc_0 tc_0 tc_4 (by omega) wa_Ledger_34 wA1 wA2 wA3 d_Ledger_copyFrom_11 (by decide) (Nat.le_of_ble_eq_true rfl) (fun h2 eh2 => ?_)
  have hI3 : Inv h2 := inv_cpy (n := 4) hI eh2 (fun _ => rfl)
  have f4 : fr S_Ledger_copyX_0_1 h h2 := fr_row f0 eh2 (fun _ => rfl)
  have C5 : rcp h h2 8 25 4 := rcp_now f0 (fun _ => rfl) eh2
  refine V_aload_n 1 d_Ledger_copyFrom_14 rfl rfl ?_
  refine V_getR fa_Ledger_15 sk_24 rfl d_Ledger_copyFrom_15 ?_
  refine V_iconst 0 d_Ledger_copyFrom_18 (by decide) ?_
  refine V_aload_n 0 d_Ledger_copyFrom_19 rfl rfl ?_
  refine V_getR fa_Ledger_15 sk_7 rfl d_Ledger_copyFrom_20 ?_
  refine V_iconst 0 d_Ledger_copyFrom_23 (by decide) ?_
  refine V_bipush 8 d_Ledger_copyFrom_24 (by decide) ?_
  refine N_acopy sk_26 sk_9 tc_0 tc_0 tc_8 (by omega) wa_Ledger_34 wA1 wA2 wA3 d_Ledger_copyFrom_26 (by decide) (Nat.le_of_ble_eq_true rfl) (fun h6 eh6 => ?_)
  have hI7 : Inv h6 := inv_cpy (n := 8) hI3 eh6 (fun _ => rfl)
  have f8 : fr S_Ledger_copyX_0_1 h h6 := fr_row f4 eh6 (fun _ => rfl)
  have C9 : rcp h h6 8 25 4 := rcp_row C5 eh6 (by decide)
  have C10 : rcp h h6 9 26 8 := rcp_now f4 (fun _ => rfl) eh6
  refine V_aload_n 1 d_Ledger_copyFrom_29 rfl rfl ?_
  refine V_getR fa_Ledger_18 sk_24 rfl d_Ledger_copyFrom_30 ?_
  refine V_iconst 0 d_Ledger_copyFrom_33 (by decide) ?_
  refine V_aload_n 0 d_Ledger_copyFrom_34 rfl rfl ?_
  refine V_getR fa_Ledger_18 sk_7 rfl d_Ledger_copyFrom_35 ?_
  refine V_iconst 0 d_Ledger_copyFrom_38 (by decide) ?_
  refine V_bipush 8 d_Ledger_copyFrom_39 (by decide) ?_
  refine N_acopy sk_27 sk_10 tc_0 tc_0 tc_8 (by omega) wa_Ledger_34 wA1 wA2 wA3 d_Ledger_copyFrom_41 (by decide) (Nat.le_of_ble_eq_true rfl) (fun h11 eh11 => ?_)
  have hI12 : Inv h11 := inv_cpy (n := 8) hI7 eh11 (fun _ => rfl)
  have f13 : fr S_Ledger_copyX_0_1 h h11 := fr_row f8 eh11 (fun _ => rfl)
  have C14 : rcp h h11 8 25 4 := rcp_row C9 eh11 (by decide)
  have C15 : rcp h h11 9 26 8 := rcp_row C10 eh11 (by decide)
  have C16 : rcp h h11 10 27 8 := rcp_now f8 (fun _ => rfl) eh11
  refine V_aload_n 1 d_Ledger_copyFrom_44 rfl rfl ?_
  refine V_getR fa_Ledger_21 sk_24 rfl d_Ledger_copyFrom_45 ?_
  refine V_iconst 0 d_Ledger_copyFrom_48 (by decide) ?_
  refine V_aload_n 0 d_Ledger_copyFrom_49 rfl rfl ?_
  refine V_getR fa_Ledger_21 sk_7 rfl d_Ledger_copyFrom_50 ?_
  refine V_iconst 0 d_Ledger_copyFrom_53 (by decide) ?_
  refine V_bipush 8 d_Ledger_copyFrom_54 (by decide) ?_
  refine N_acopy sk_28 sk_11 tc_0 tc_0 tc_8 (by omega) wa_Ledger_34 wA1 wA2 wA3 d_Ledger_copyFrom_56 (by decide) (Nat.le_of_ble_eq_true rfl) (fun h17 eh17 => ?_)
  have hI18 : Inv h17 := inv_cpy (n := 8) hI12 eh17 (fun _ => rfl)
  have f19 : fr S_Ledger_copyX_0_1 h h17 := fr_row f13 eh17 (fun _ => rfl)
  have C20 : rcp h h17 8 25 4 := rcp_row C14 eh17 (by decide)
  have C21 : rcp h h17 9 26 8 := rcp_row C15 eh17 (by decide)
  have C22 : rcp h h17 10 27 8 := rcp_row C16 eh17 (by decide)
  have C23 : rcp h h17 11 28 8 := rcp_now f13 (fun _ => rfl) eh17
  refine V_aload_n 0 d_Ledger_copyFrom_59 rfl rfl ?_
  refine V_aload_n 1 d_Ledger_copyFrom_60 rfl rfl ?_
  refine N_getK fa_Ledger_30 sk_24 rfl d_Ledger_copyFrom_61 (kn_row eh17 (kn_row eh11 (kn_row eh6 (kn_row eh2 tK (by decide)) (by decide)) (by decide)) (by decide)) ?_
  refine N_putI fp_Ledger_30 sk_7 rfl d_Ledger_copyFrom_64 (fun h24 eh24 => ?_)
  have hI25 : Inv h24 := inv_put (lo := 0) (hi := 8) hI18 eh24 rfl tE (by omega)
  have f26 : fr S_Ledger_copyX_0_1 h h24 := fr_put f19 eh24 rfl
  have C27 : rcp h h24 8 25 4 := rcp_put C20 eh24 (by decide)
  have C28 : rcp h h24 9 26 8 := rcp_put C21 eh24 (by decide)
  have C29 : rcp h h24 10 27 8 := rcp_put C22 eh24 (by decide)
  have C30 : rcp h h24 11 28 8 := rcp_put C23 eh24 (by decide)
  exact V_vret rfl d_Ledger_copyFrom_67 ⟨rfl, ⟨hI25, f26, ⟨((kn_put eh24).trans tK.symm), C27, C28, C29, C30⟩⟩⟩
def S_Sights_copyX_0_1 : List (Nat × Option Nat) := [(12, some 4), (13, none), (14, none), (15, none), (16, none)]
abbrev q_Sights_copyX_0_1 (h : Hp) (t : Int32) (tZ : Int) : Option Value → Hp → Prop := pVd (fun h' => Inv h' ∧ fr S_Sights_copyX_0_1 h h' ∧ (h'.1 12 4 = h.1 29 4 ∧ rcp h h' 13 30 8 ∧ rcp h h' 14 31 8 ∧ rcp h h' 15 32 8 ∧ rcp h h' 16 33 8))
set_option maxRecDepth 100000 in
theorem c_Sights_copyX_0_1 (h : Hp) (hI : Inv h) (t : Int32) (tZ : Int) (tE : t.toInt = tZ) (tK : h.1 29 4 = t) : Ct y_Sights_copyFrom b_Sights_copyFrom 2 none 1 60 [.ref 12, .ref 29] h (q_Sights_copyX_0_1 h t tZ) := by
  refine ct_ow R_Sights [some (.ref 12), some (.ref 29)] rfl (by decide) rfl (Nat.le_of_ble_eq_true rfl) ?_
  have f0 : fr S_Sights_copyX_0_1 h h := fr_rf
  have g1 : 0 ≤ tZ ∧ tZ ≤ 8 := inv_at hI tE tK.symm rfl
  refine V_aload_n 1 d_Sights_copyFrom_0 rfl rfl ?_
  refine V_getR fa_Sights_9 sk_29 rfl d_Sights_copyFrom_1 ?_
  refine V_iconst 0 d_Sights_copyFrom_4 (by decide) ?_
  refine V_aload_n 0 d_Sights_copyFrom_5 rfl rfl ?_
  refine V_getR fa_Sights_9 sk_12 rfl d_Sights_copyFrom_6 ?_
  refine V_iconst 0 d_Sights_copyFrom_9 (by decide) ?_
  refine V_bipush 8 d_Sights_copyFrom_10 (by decide) ?_
  refine N_acopy sk_30 sk_13 tc_0 tc_0 tc_8 (by omega) wa_Sights_24 wA1 wA2 wA3 d_Sights_copyFrom_12 (by decide) (Nat.le_of_ble_eq_true rfl) (fun h2 eh2 => ?_)
  have hI3 : Inv h2 := inv_cpy (n := 8) hI eh2 (fun _ => rfl)
  have f4 : fr S_Sights_copyX_0_1 h h2 := fr_row f0 eh2 (fun _ => rfl)
  have C5 : rcp h h2 13 30 8 := rcp_now f0 (fun _ => rfl) eh2
  refine V_aload_n 1 d_Sights_copyFrom_15 rfl rfl ?_
  refine V_getR fa_Sights_15 sk_29 rfl d_Sights_copyFrom_16 ?_
  refine V_iconst 0 d_Sights_copyFrom_19 (by decide) ?_
  refine V_aload_n 0 d_Sights_copyFrom_20 rfl rfl ?_
  refine V_getR fa_Sights_15 sk_12 rfl d_Sights_copyFrom_21 ?_
  refine V_iconst 0 d_Sights_copyFrom_24 (by decide) ?_
  refine V_bipush 8 d_Sights_copyFrom_25 (by decide) ?_
  refine N_acopy sk_31 sk_14 tc_0 tc_0 tc_8 (by omega) wa_Sights_24 wA1 wA2 wA3 d_Sights_copyFrom_27 (by decide) (Nat.le_of_ble_eq_true rfl) (fun h6 eh6 => ?_)
  have hI7 : Inv h6 := inv_cpy (n := 8) hI3 eh6 (fun _ => rfl)
  have f8 : fr S_Sights_copyX_0_1 h h6 := fr_row f4 eh6 (fun _ => rfl)
  have C9 : rcp h h6 13 30 8 := rcp_row C5 eh6 (by decide)
  have C10 : rcp h h6 14 31 8 := rcp_now f4 (fun _ => rfl) eh6
  refine V_aload_n 1 d_Sights_copyFrom_30 rfl rfl ?_
  refine V_getR fa_Sights_18 sk_29 rfl d_Sights_copyFrom_31 ?_
  refine V_iconst 0 d_Sights_copyFrom_34 (by decide) ?_
  refine V_aload_n 0 d_Sights_copyFrom_35 rfl rfl ?_
  refine V_getR fa_Sights_18 sk_12 rfl d_Sights_copyFrom_36 ?_
  refine V_iconst 0 d_Sights_copyFrom_39 (by decide) ?_
  refine V_bipush 8 d_Sights_copyFrom_40 (by decide) ?_
  refine N_acopy sk_32 sk_15 tc_0 tc_0 tc_8 (by omega) wa_Sights_24 wA1 wA2 wA3 d_Sights_copyFrom_42 (by decide) (Nat.le_of_ble_eq_true rfl) (fun h11 eh11 => ?_)
  have hI12 : Inv h11 := inv_cpy (n := 8) hI7 eh11 (fun _ => rfl)
  have f13 : fr S_Sights_copyX_0_1 h h11 := fr_row f8 eh11 (fun _ => rfl)
  have C14 : rcp h h11 13 30 8 := rcp_row C9 eh11 (by decide)
  have C15 : rcp h h11 14 31 8 := rcp_row C10 eh11 (by decide)
  have C16 : rcp h h11 15 32 8 := rcp_now f8 (fun _ => rfl) eh11
  refine V_aload_n 1 d_Sights_copyFrom_45 rfl rfl ?_
  refine V_getR fa_Sights_21 sk_29 rfl d_Sights_copyFrom_46 ?_
  refine V_iconst 0 d_Sights_copyFrom_49 (by decide) ?_
  refine V_aload_n 0 d_Sights_copyFrom_50 rfl rfl ?_
  refine V_getR fa_Sights_21 sk_12 rfl d_Sights_copyFrom_51 ?_
  refine V_iconst 0 d_Sights_copyFrom_54 (by decide) ?_
  refine V_bipush 8 d_Sights_copyFrom_55 (by decide) ?_
  refine N_acopy sk_33 sk_16 tc_0 tc_0 tc_8 (by omega) wa_Sights_24 wA1 wA2 wA3 d_Sights_copyFrom_57 (by decide) (Nat.le_of_ble_eq_true rfl) (fun h17 eh17 => ?_)
  have hI18 : Inv h17 := inv_cpy (n := 8) hI12 eh17 (fun _ => rfl)
  have f19 : fr S_Sights_copyX_0_1 h h17 := fr_row f13 eh17 (fun _ => rfl)
  have C20 : rcp h h17 13 30 8 := rcp_row C14 eh17 (by decide)
  have C21 : rcp h h17 14 31 8 := rcp_row C15 eh17 (by decide)
  have C22 : rcp h h17 15 32 8 := rcp_row C16 eh17 (by decide)
  have C23 : rcp h h17 16 33 8 := rcp_now f13 (fun _ => rfl) eh17
  refine V_aload_n 0 d_Sights_copyFrom_60 rfl rfl ?_
  refine V_aload_n 1 d_Sights_copyFrom_61 rfl rfl ?_
  refine N_getK fa_Sights_30 sk_29 rfl d_Sights_copyFrom_62 (kn_row eh17 (kn_row eh11 (kn_row eh6 (kn_row eh2 tK (by decide)) (by decide)) (by decide)) (by decide)) ?_
  refine N_putI fp_Sights_30 sk_12 rfl d_Sights_copyFrom_65 (fun h24 eh24 => ?_)
  have hI25 : Inv h24 := inv_put (lo := 0) (hi := 8) hI18 eh24 rfl tE (by omega)
  have f26 : fr S_Sights_copyX_0_1 h h24 := fr_put f19 eh24 rfl
  have C27 : rcp h h24 13 30 8 := rcp_put C20 eh24 (by decide)
  have C28 : rcp h h24 14 31 8 := rcp_put C21 eh24 (by decide)
  have C29 : rcp h h24 15 32 8 := rcp_put C22 eh24 (by decide)
  have C30 : rcp h h24 16 33 8 := rcp_put C23 eh24 (by decide)
  exact V_vret rfl d_Sights_copyFrom_68 ⟨rfl, ⟨hI25, f26, ⟨((kn_put eh24).trans tK.symm), C27, C28, C29, C30⟩⟩⟩
def S_County_copyX_0_1 : List (Nat × Option Nat) := [(0, some 3), (0, some 4), (1, none), (2, none), (3, none), (4, none), (5, none), (6, none), (7, some 4), (8, none), (9, none), (10, none), (11, none), (12, some 4), (13, none), (14, none), (15, none), (16, none)]
abbrev q_County_copyX_0_1 (h : Hp) (n : Int32) (nZ : Int) (m : Int32) (mZ : Int) : Option Value → Hp → Prop := pVd (fun h' => Inv h' ∧ fr S_County_copyX_0_1 h h' ∧ (cpy h h' 0 17))
set_option maxRecDepth 100000 in
theorem c_County_copyX_0_1 (h : Hp) (hI : Inv h) (n : Int32) (nZ : Int) (nE : n.toInt = nZ) (nK : h.1 17 3 = n) (m : Int32) (mZ : Int) (mE : m.toInt = mZ) (mK : h.1 17 4 = m) : Ct y_County_copyFrom b_County_copyFrom 2 none 2 81 [.ref 0, .ref 17] h (q_County_copyX_0_1 h n nZ m mZ) := by
  refine ct_ow R_County [some (.ref 0), some (.ref 17)] rfl (by decide) rfl (Nat.le_of_ble_eq_true rfl) ?_
  have f0 : fr S_County_copyX_0_1 h h := fr_rf
  refine V_aload_n 0 d_County_copyFrom_0 rfl rfl ?_
  refine V_getR fa_County_12 sk_0 rfl d_County_copyFrom_1 ?_
  refine V_aload_n 1 d_County_copyFrom_4 rfl rfl ?_
  refine V_getR fa_County_12 sk_17 rfl d_County_copyFrom_5 ?_
  obtain ⟨z1, z1Z, z1E, z1e⟩ : ∃ (y : Int32) (Y : Int), y.toInt = Y ∧ y = h.1 18 0 := ⟨_, _, rfl, rfl⟩
  have g2 : 2 ≤ z1Z ∧ z1Z ≤ 4 := inv_at hI z1E z1e rfl
  obtain ⟨z3, z3Z, z3E, z3e⟩ : ∃ (y : Int32) (Y : Int), y.toInt = Y ∧ y = h.1 18 1 := ⟨_, _, rfl, rfl⟩
  have g4 : 2 ≤ z3Z ∧ z3Z ≤ 4 := inv_at hI z3E z3e rfl
  obtain ⟨z5, z5Z, z5E, z5e⟩ : ∃ (y : Int32) (Y : Int), y.toInt = Y ∧ y = h.1 18 2 := ⟨_, _, rfl, rfl⟩
  obtain ⟨z6, z6Z, z6E, z6e⟩ : ∃ (y : Int32) (Y : Int), y.toInt = Y ∧ y = h.1 18 3 := ⟨_, _, rfl, rfl⟩
  refine N_callVV [.ref 18] [] cv_County_47 sk_1 rfl d_County_copyFrom_8 rfl (Nat.le_of_ble_eq_true rfl) (by decide) (by decide) (c_Land_copyX_0_1 h hI z1 z1Z z1E z1e.symm z3 z3Z z3E z3e.symm z5 z5Z z5E z5e.symm z6 z6Z z6E z6e.symm) (fun h8 p9 => ?_)
  obtain ⟨hI10, fh8, p9⟩ := p9
  have f11 : fr S_County_copyX_0_1 h h8 := fr_call f0 fh8 rfl
  have qL := p9
  refine V_aload_n 0 d_County_copyFrom_11 rfl rfl ?_
  refine V_getR fa_County_21 sk_0 rfl d_County_copyFrom_12 ?_
  refine V_aload_n 1 d_County_copyFrom_15 rfl rfl ?_
  refine V_getR fa_County_21 sk_17 rfl d_County_copyFrom_16 ?_
  obtain ⟨z12, z12Z, z12E, z12e⟩ : ∃ (y : Int32) (Y : Int), y.toInt = Y ∧ y = h8.1 24 4 := ⟨_, _, rfl, rfl⟩
  have g13 : 0 ≤ z12Z ∧ z12Z ≤ 8 := inv_at hI10 z12E z12e rfl
  refine N_callVV [.ref 24] [] cv_County_51 sk_7 rfl d_County_copyFrom_19 rfl (Nat.le_of_ble_eq_true rfl) (by decide) (by decide) (c_Ledger_copyX_0_1 h8 hI10 z12 z12Z z12E z12e.symm) (fun h15 p16 => ?_)
  obtain ⟨hI17, fh15, p16⟩ := p16
  have f18 : fr S_County_copyX_0_1 h h15 := fr_call f11 fh15 rfl
  have qG := p16
  refine V_aload_n 0 d_County_copyFrom_22 rfl rfl ?_
  refine V_getR fa_County_28 sk_0 rfl d_County_copyFrom_23 ?_
  refine V_aload_n 1 d_County_copyFrom_26 rfl rfl ?_
  refine V_getR fa_County_28 sk_17 rfl d_County_copyFrom_27 ?_
  obtain ⟨z19, z19Z, z19E, z19e⟩ : ∃ (y : Int32) (Y : Int), y.toInt = Y ∧ y = h15.1 29 4 := ⟨_, _, rfl, rfl⟩
  have g20 : 0 ≤ z19Z ∧ z19Z ≤ 8 := inv_at hI17 z19E z19e rfl
  refine N_callVV [.ref 29] [] cv_County_54 sk_12 rfl d_County_copyFrom_30 rfl (Nat.le_of_ble_eq_true rfl) (by decide) (by decide) (c_Sights_copyX_0_1 h15 hI17 z19 z19Z z19E z19e.symm) (fun h22 p23 => ?_)
  obtain ⟨hI24, fh22, p23⟩ := p23
  have f25 : fr S_County_copyX_0_1 h h22 := fr_call f18 fh22 rfl
  have qS := p23
  refine V_aload_n 0 d_County_copyFrom_33 rfl rfl ?_
  refine V_aload_n 1 d_County_copyFrom_34 rfl rfl ?_
  refine N_getK fa_County_41 sk_17 rfl d_County_copyFrom_35 (kn_call fh22 (kn_call fh15 (kn_call fh8 nK rfl) rfl) rfl) ?_
  refine N_putI fp_County_41 sk_0 rfl d_County_copyFrom_38 (fun h26 eh26 => ?_)
  have hI27 : Inv h26 := inv_full hI24 eh26 rfl
  have f28 : fr S_County_copyX_0_1 h h26 := fr_put f25 eh26 rfl
  refine V_aload_n 0 d_County_copyFrom_41 rfl rfl ?_
  refine V_aload_n 1 d_County_copyFrom_42 rfl rfl ?_
  refine N_getK fa_County_44 sk_17 rfl d_County_copyFrom_43 (kn_ne eh26 (kn_call fh22 (kn_call fh15 (kn_call fh8 mK rfl) rfl) rfl) (by decide)) ?_
  refine N_putI fp_County_44 sk_0 rfl d_County_copyFrom_46 (fun h29 eh29 => ?_)
  have hI30 : Inv h29 := inv_full hI27 eh29 rfl
  have f31 : fr S_County_copyX_0_1 h h29 := fr_put f28 eh29 rfl
  exact V_vret rfl d_County_copyFrom_49 ⟨rfl, ⟨hI30, f31, (cpy_of (a := 0) (b := 17) qL fh15 qG fh22 qS fh8 eh26 eh29 nK mK rfl rfl rfl rfl)⟩⟩
def S_Land_copyX_2_0 : List (Nat × Option Nat) := [(35, none), (36, none), (37, none), (38, none), (39, none), (40, none)]
abbrev q_Land_copyX_2_0 (h : Hp) (w : Int32) (wZ : Int) (g : Int32) (gZ : Int) (x : Int32) (xZ : Int) (y : Int32) (yZ : Int) : Option Value → Hp → Prop := pVd (fun h' => Inv h' ∧ fr S_Land_copyX_2_0 h h' ∧ (h'.1 35 0 = h.1 1 0 ∧ h'.1 35 1 = h.1 1 1 ∧ h'.1 35 2 = h.1 1 2 ∧ h'.1 35 3 = h.1 1 3 ∧ rcp h h' 36 2 16 ∧ rcp h h' 37 3 16 ∧ rcp h h' 38 4 16 ∧ rcp h h' 39 5 16 ∧ rcp h h' 40 6 16))
set_option maxRecDepth 100000 in
theorem c_Land_copyX_2_0 (h : Hp) (hI : Inv h) (w : Int32) (wZ : Int) (wE : w.toInt = wZ) (wK : h.1 1 0 = w) (g : Int32) (gZ : Int) (gE : g.toInt = gZ) (gK : h.1 1 1 = g) (x : Int32) (xZ : Int) (xE : x.toInt = xZ) (xK : h.1 1 2 = x) (y : Int32) (yZ : Int) (yE : y.toInt = yZ) (yK : h.1 1 3 = y) : Ct y_Land_copyFrom b_Land_copyFrom 2 none 1 60 [.ref 35, .ref 1] h (q_Land_copyX_2_0 h w wZ g gZ x xZ y yZ) := by
  refine ct_ow R_Land [some (.ref 35), some (.ref 1)] rfl (by decide) rfl (Nat.le_of_ble_eq_true rfl) ?_
  have f0 : fr S_Land_copyX_2_0 h h := fr_rf
  have g1 : 2 ≤ wZ ∧ wZ ≤ 4 := inv_at hI wE wK.symm rfl
  have g2 : 2 ≤ gZ ∧ gZ ≤ 4 := inv_at hI gE gK.symm rfl
  refine V_aload_n 0 d_Land_copyFrom_0 rfl rfl ?_
  refine V_aload_n 1 d_Land_copyFrom_1 rfl rfl ?_
  refine N_getK fa_Land_27 sk_1 rfl d_Land_copyFrom_2 wK ?_
  refine N_putI fp_Land_27 sk_35 rfl d_Land_copyFrom_5 (fun h3 eh3 => ?_)
  have hI4 : Inv h3 := inv_put (lo := 2) (hi := 4) hI eh3 rfl wE (by omega)
  have f5 : fr S_Land_copyX_2_0 h h3 := fr_put f0 eh3 rfl
  refine V_aload_n 0 d_Land_copyFrom_8 rfl rfl ?_
  refine V_aload_n 1 d_Land_copyFrom_9 rfl rfl ?_
  refine N_getK fa_Land_31 sk_1 rfl d_Land_copyFrom_10 (kn_ne eh3 gK (by decide)) ?_
  refine N_putI fp_Land_31 sk_35 rfl d_Land_copyFrom_13 (fun h6 eh6 => ?_)
  have hI7 : Inv h6 := inv_put (lo := 2) (hi := 4) hI4 eh6 rfl gE (by omega)
  have f8 : fr S_Land_copyX_2_0 h h6 := fr_put f5 eh6 rfl
  refine V_aload_n 0 d_Land_copyFrom_16 rfl rfl ?_
  refine V_aload_n 1 d_Land_copyFrom_17 rfl rfl ?_
  refine N_getK fa_Land_34 sk_1 rfl d_Land_copyFrom_18 (kn_ne eh6 (kn_ne eh3 xK (by decide)) (by decide)) ?_
  refine N_putI fp_Land_34 sk_35 rfl d_Land_copyFrom_21 (fun h9 eh9 => ?_)
  have hI10 : Inv h9 := inv_full hI7 eh9 rfl
  have f11 : fr S_Land_copyX_2_0 h h9 := fr_put f8 eh9 rfl
  refine V_aload_n 0 d_Land_copyFrom_24 rfl rfl ?_
  refine V_aload_n 1 d_Land_copyFrom_25 rfl rfl ?_
  refine N_getK fa_Land_37 sk_1 rfl d_Land_copyFrom_26 (kn_ne eh9 (kn_ne eh6 (kn_ne eh3 yK (by decide)) (by decide)) (by decide)) ?_
  refine N_putI fp_Land_37 sk_35 rfl d_Land_copyFrom_29 (fun h12 eh12 => ?_)
  have hI13 : Inv h12 := inv_full hI10 eh12 rfl
  have f14 : fr S_Land_copyX_2_0 h h12 := fr_put f11 eh12 rfl
  refine V_aload_n 1 d_Land_copyFrom_32 rfl rfl ?_
  refine V_getR fa_Land_9 sk_1 rfl d_Land_copyFrom_33 ?_
  refine V_iconst 0 d_Land_copyFrom_36 (by decide) ?_
  refine V_aload_n 0 d_Land_copyFrom_37 rfl rfl ?_
  refine V_getR fa_Land_9 sk_35 rfl d_Land_copyFrom_38 ?_
  refine V_iconst 0 d_Land_copyFrom_41 (by decide) ?_
  refine V_bipush 16 d_Land_copyFrom_42 (by decide) ?_
  refine N_acopy sk_2 sk_36 tc_0 tc_0 tc_16 (by omega) wa_Land_46 wA1 wA2 wA3 d_Land_copyFrom_44 (by decide) (Nat.le_of_ble_eq_true rfl) (fun h15 eh15 => ?_)
  have hI16 : Inv h15 := inv_cpy (n := 16) hI13 eh15 (fun _ => rfl)
  have f17 : fr S_Land_copyX_2_0 h h15 := fr_row f14 eh15 (fun _ => rfl)
  have C18 : rcp h h15 36 2 16 := rcp_now f14 (fun _ => rfl) eh15
  refine V_aload_n 1 d_Land_copyFrom_47 rfl rfl ?_
  refine V_getR fa_Land_15 sk_1 rfl d_Land_copyFrom_48 ?_
  refine V_iconst 0 d_Land_copyFrom_51 (by decide) ?_
  refine V_aload_n 0 d_Land_copyFrom_52 rfl rfl ?_
  refine V_getR fa_Land_15 sk_35 rfl d_Land_copyFrom_53 ?_
  refine V_iconst 0 d_Land_copyFrom_56 (by decide) ?_
  refine V_bipush 16 d_Land_copyFrom_57 (by decide) ?_
  refine N_acopy sk_3 sk_37 tc_0 tc_0 tc_16 (by omega) wa_Land_46 wA1 wA2 wA3 d_Land_copyFrom_59 (by decide) (Nat.le_of_ble_eq_true rfl) (fun h19 eh19 => ?_)
  have hI20 : Inv h19 := inv_cpy (n := 16) hI16 eh19 (fun _ => rfl)
  have f21 : fr S_Land_copyX_2_0 h h19 := fr_row f17 eh19 (fun _ => rfl)
  have C22 : rcp h h19 36 2 16 := rcp_row C18 eh19 (by decide)
  have C23 : rcp h h19 37 3 16 := rcp_now f17 (fun _ => rfl) eh19
  refine V_aload_n 1 d_Land_copyFrom_62 rfl rfl ?_
  refine V_getR fa_Land_18 sk_1 rfl d_Land_copyFrom_63 ?_
  refine V_iconst 0 d_Land_copyFrom_66 (by decide) ?_
  refine V_aload_n 0 d_Land_copyFrom_67 rfl rfl ?_
  refine V_getR fa_Land_18 sk_35 rfl d_Land_copyFrom_68 ?_
  refine V_iconst 0 d_Land_copyFrom_71 (by decide) ?_
  refine V_bipush 16 d_Land_copyFrom_72 (by decide) ?_
  refine N_acopy sk_4 sk_38 tc_0 tc_0 tc_16 (by omega) wa_Land_46 wA1 wA2 wA3 d_Land_copyFrom_74 (by decide) (Nat.le_of_ble_eq_true rfl) (fun h24 eh24 => ?_)
  have hI25 : Inv h24 := inv_cpy (n := 16) hI20 eh24 (fun _ => rfl)
  have f26 : fr S_Land_copyX_2_0 h h24 := fr_row f21 eh24 (fun _ => rfl)
  have C27 : rcp h h24 36 2 16 := rcp_row C22 eh24 (by decide)
  have C28 : rcp h h24 37 3 16 := rcp_row C23 eh24 (by decide)
  have C29 : rcp h h24 38 4 16 := rcp_now f21 (fun _ => rfl) eh24
  refine V_aload_n 1 d_Land_copyFrom_77 rfl rfl ?_
  refine V_getR fa_Land_21 sk_1 rfl d_Land_copyFrom_78 ?_
  refine V_iconst 0 d_Land_copyFrom_81 (by decide) ?_
  refine V_aload_n 0 d_Land_copyFrom_82 rfl rfl ?_
  refine V_getR fa_Land_21 sk_35 rfl d_Land_copyFrom_83 ?_
  refine V_iconst 0 d_Land_copyFrom_86 (by decide) ?_
  refine V_bipush 16 d_Land_copyFrom_87 (by decide) ?_
  refine N_acopy sk_5 sk_39 tc_0 tc_0 tc_16 (by omega) wa_Land_46 wA1 wA2 wA3 d_Land_copyFrom_89 (by decide) (Nat.le_of_ble_eq_true rfl) (fun h30 eh30 => ?_)
  have hI31 : Inv h30 := inv_cpy (n := 16) hI25 eh30 (fun _ => rfl)
  have f32 : fr S_Land_copyX_2_0 h h30 := fr_row f26 eh30 (fun _ => rfl)
  have C33 : rcp h h30 36 2 16 := rcp_row C27 eh30 (by decide)
  have C34 : rcp h h30 37 3 16 := rcp_row C28 eh30 (by decide)
  have C35 : rcp h h30 38 4 16 := rcp_row C29 eh30 (by decide)
  have C36 : rcp h h30 39 5 16 := rcp_now f26 (fun _ => rfl) eh30
  refine V_aload_n 1 d_Land_copyFrom_92 rfl rfl ?_
  refine V_getR fa_Land_24 sk_1 rfl d_Land_copyFrom_93 ?_
  refine V_iconst 0 d_Land_copyFrom_96 (by decide) ?_
  refine V_aload_n 0 d_Land_copyFrom_97 rfl rfl ?_
  refine V_getR fa_Land_24 sk_35 rfl d_Land_copyFrom_98 ?_
  refine V_iconst 0 d_Land_copyFrom_101 (by decide) ?_
  refine V_bipush 16 d_Land_copyFrom_102 (by decide) ?_
  refine N_acopy sk_6 sk_40 tc_0 tc_0 tc_16 (by omega) wa_Land_46 wA1 wA2 wA3 d_Land_copyFrom_104 (by decide) (Nat.le_of_ble_eq_true rfl) (fun h37 eh37 => ?_)
  have hI38 : Inv h37 := inv_cpy (n := 16) hI31 eh37 (fun _ => rfl)
  have f39 : fr S_Land_copyX_2_0 h h37 := fr_row f32 eh37 (fun _ => rfl)
  have C40 : rcp h h37 36 2 16 := rcp_row C33 eh37 (by decide)
  have C41 : rcp h h37 37 3 16 := rcp_row C34 eh37 (by decide)
  have C42 : rcp h h37 38 4 16 := rcp_row C35 eh37 (by decide)
  have C43 : rcp h h37 39 5 16 := rcp_row C36 eh37 (by decide)
  have C44 : rcp h h37 40 6 16 := rcp_now f32 (fun _ => rfl) eh37
  exact V_vret rfl d_Land_copyFrom_107 ⟨rfl, ⟨hI38, f39, ⟨((kn_row eh37 (kn_row eh30 (kn_row eh24 (kn_row eh19 (kn_row eh15 (kn_nei eh12 (kn_nei eh9 (kn_nei eh6 (kn_put eh3) (by decide)) (by decide)) (by decide)) (by decide)) (by decide)) (by decide)) (by decide)) (by decide)).trans wK.symm), ((kn_row eh37 (kn_row eh30 (kn_row eh24 (kn_row eh19 (kn_row eh15 (kn_nei eh12 (kn_nei eh9 (kn_put eh6) (by decide)) (by decide)) (by decide)) (by decide)) (by decide)) (by decide)) (by decide)).trans gK.symm), ((kn_row eh37 (kn_row eh30 (kn_row eh24 (kn_row eh19 (kn_row eh15 (kn_nei eh12 (kn_put eh9) (by decide)) (by decide)) (by decide)) (by decide)) (by decide)) (by decide)).trans xK.symm), ((kn_row eh37 (kn_row eh30 (kn_row eh24 (kn_row eh19 (kn_row eh15 (kn_put eh12) (by decide)) (by decide)) (by decide)) (by decide)) (by decide)).trans yK.symm), C40, C41, C42, C43, C44⟩⟩⟩
def S_Ledger_copyX_2_0 : List (Nat × Option Nat) := [(41, some 4), (42, none), (43, none), (44, none), (45, none)]
abbrev q_Ledger_copyX_2_0 (h : Hp) (t : Int32) (tZ : Int) : Option Value → Hp → Prop := pVd (fun h' => Inv h' ∧ fr S_Ledger_copyX_2_0 h h' ∧ (h'.1 41 4 = h.1 7 4 ∧ rcp h h' 42 8 4 ∧ rcp h h' 43 9 8 ∧ rcp h h' 44 10 8 ∧ rcp h h' 45 11 8))
set_option maxRecDepth 100000 in
theorem c_Ledger_copyX_2_0 (h : Hp) (hI : Inv h) (t : Int32) (tZ : Int) (tE : t.toInt = tZ) (tK : h.1 7 4 = t) : Ct y_Ledger_copyFrom b_Ledger_copyFrom 2 none 1 60 [.ref 41, .ref 7] h (q_Ledger_copyX_2_0 h t tZ) := by
  refine ct_ow R_Ledger [some (.ref 41), some (.ref 7)] rfl (by decide) rfl (Nat.le_of_ble_eq_true rfl) ?_
  have f0 : fr S_Ledger_copyX_2_0 h h := fr_rf
  have g1 : 0 ≤ tZ ∧ tZ ≤ 8 := inv_at hI tE tK.symm rfl
  refine V_aload_n 1 d_Ledger_copyFrom_0 rfl rfl ?_
  refine V_getR fa_Ledger_9 sk_7 rfl d_Ledger_copyFrom_1 ?_
  refine V_iconst 0 d_Ledger_copyFrom_4 (by decide) ?_
  refine V_aload_n 0 d_Ledger_copyFrom_5 rfl rfl ?_
  refine V_getR fa_Ledger_9 sk_41 rfl d_Ledger_copyFrom_6 ?_
  refine V_iconst 0 d_Ledger_copyFrom_9 (by decide) ?_
  refine V_iconst 4 d_Ledger_copyFrom_10 (by decide) ?_
  refine N_acopy sk_8 sk_42 tc_0 tc_0 tc_4 (by omega) wa_Ledger_34 wA1 wA2 wA3 d_Ledger_copyFrom_11 (by decide) (Nat.le_of_ble_eq_true rfl) (fun h2 eh2 => ?_)
  have hI3 : Inv h2 := inv_cpy (n := 4) hI eh2 (fun _ => rfl)
  have f4 : fr S_Ledger_copyX_2_0 h h2 := fr_row f0 eh2 (fun _ => rfl)
  have C5 : rcp h h2 42 8 4 := rcp_now f0 (fun _ => rfl) eh2
  refine V_aload_n 1 d_Ledger_copyFrom_14 rfl rfl ?_
  refine V_getR fa_Ledger_15 sk_7 rfl d_Ledger_copyFrom_15 ?_
  refine V_iconst 0 d_Ledger_copyFrom_18 (by decide) ?_
  refine V_aload_n 0 d_Ledger_copyFrom_19 rfl rfl ?_
  refine V_getR fa_Ledger_15 sk_41 rfl d_Ledger_copyFrom_20 ?_
  refine V_iconst 0 d_Ledger_copyFrom_23 (by decide) ?_
  refine V_bipush 8 d_Ledger_copyFrom_24 (by decide) ?_
  refine N_acopy sk_9 sk_43 tc_0 tc_0 tc_8 (by omega) wa_Ledger_34 wA1 wA2 wA3 d_Ledger_copyFrom_26 (by decide) (Nat.le_of_ble_eq_true rfl) (fun h6 eh6 => ?_)
  have hI7 : Inv h6 := inv_cpy (n := 8) hI3 eh6 (fun _ => rfl)
  have f8 : fr S_Ledger_copyX_2_0 h h6 := fr_row f4 eh6 (fun _ => rfl)
  have C9 : rcp h h6 42 8 4 := rcp_row C5 eh6 (by decide)
  have C10 : rcp h h6 43 9 8 := rcp_now f4 (fun _ => rfl) eh6
  refine V_aload_n 1 d_Ledger_copyFrom_29 rfl rfl ?_
  refine V_getR fa_Ledger_18 sk_7 rfl d_Ledger_copyFrom_30 ?_
  refine V_iconst 0 d_Ledger_copyFrom_33 (by decide) ?_
  refine V_aload_n 0 d_Ledger_copyFrom_34 rfl rfl ?_
  refine V_getR fa_Ledger_18 sk_41 rfl d_Ledger_copyFrom_35 ?_
  refine V_iconst 0 d_Ledger_copyFrom_38 (by decide) ?_
  refine V_bipush 8 d_Ledger_copyFrom_39 (by decide) ?_
  refine N_acopy sk_10 sk_44 tc_0 tc_0 tc_8 (by omega) wa_Ledger_34 wA1 wA2 wA3 d_Ledger_copyFrom_41 (by decide) (Nat.le_of_ble_eq_true rfl) (fun h11 eh11 => ?_)
  have hI12 : Inv h11 := inv_cpy (n := 8) hI7 eh11 (fun _ => rfl)
  have f13 : fr S_Ledger_copyX_2_0 h h11 := fr_row f8 eh11 (fun _ => rfl)
  have C14 : rcp h h11 42 8 4 := rcp_row C9 eh11 (by decide)
  have C15 : rcp h h11 43 9 8 := rcp_row C10 eh11 (by decide)
  have C16 : rcp h h11 44 10 8 := rcp_now f8 (fun _ => rfl) eh11
  refine V_aload_n 1 d_Ledger_copyFrom_44 rfl rfl ?_
  refine V_getR fa_Ledger_21 sk_7 rfl d_Ledger_copyFrom_45 ?_
  refine V_iconst 0 d_Ledger_copyFrom_48 (by decide) ?_
  refine V_aload_n 0 d_Ledger_copyFrom_49 rfl rfl ?_
  refine V_getR fa_Ledger_21 sk_41 rfl d_Ledger_copyFrom_50 ?_
  refine V_iconst 0 d_Ledger_copyFrom_53 (by decide) ?_
  refine V_bipush 8 d_Ledger_copyFrom_54 (by decide) ?_
  refine N_acopy sk_11 sk_45 tc_0 tc_0 tc_8 (by omega) wa_Ledger_34 wA1 wA2 wA3 d_Ledger_copyFrom_56 (by decide) (Nat.le_of_ble_eq_true rfl) (fun h17 eh17 => ?_)
  have hI18 : Inv h17 := inv_cpy (n := 8) hI12 eh17 (fun _ => rfl)
  have f19 : fr S_Ledger_copyX_2_0 h h17 := fr_row f13 eh17 (fun _ => rfl)
  have C20 : rcp h h17 42 8 4 := rcp_row C14 eh17 (by decide)
  have C21 : rcp h h17 43 9 8 := rcp_row C15 eh17 (by decide)
  have C22 : rcp h h17 44 10 8 := rcp_row C16 eh17 (by decide)
  have C23 : rcp h h17 45 11 8 := rcp_now f13 (fun _ => rfl) eh17
  refine V_aload_n 0 d_Ledger_copyFrom_59 rfl rfl ?_
  refine V_aload_n 1 d_Ledger_copyFrom_60 rfl rfl ?_
  refine N_getK fa_Ledger_30 sk_7 rfl d_Ledger_copyFrom_61 (kn_row eh17 (kn_row eh11 (kn_row eh6 (kn_row eh2 tK (by decide)) (by decide)) (by decide)) (by decide)) ?_
  refine N_putI fp_Ledger_30 sk_41 rfl d_Ledger_copyFrom_64 (fun h24 eh24 => ?_)
  have hI25 : Inv h24 := inv_put (lo := 0) (hi := 8) hI18 eh24 rfl tE (by omega)
  have f26 : fr S_Ledger_copyX_2_0 h h24 := fr_put f19 eh24 rfl
  have C27 : rcp h h24 42 8 4 := rcp_put C20 eh24 (by decide)
  have C28 : rcp h h24 43 9 8 := rcp_put C21 eh24 (by decide)
  have C29 : rcp h h24 44 10 8 := rcp_put C22 eh24 (by decide)
  have C30 : rcp h h24 45 11 8 := rcp_put C23 eh24 (by decide)
  exact V_vret rfl d_Ledger_copyFrom_67 ⟨rfl, ⟨hI25, f26, ⟨((kn_put eh24).trans tK.symm), C27, C28, C29, C30⟩⟩⟩
def S_Sights_copyX_2_0 : List (Nat × Option Nat) := [(46, some 4), (47, none), (48, none), (49, none), (50, none)]
abbrev q_Sights_copyX_2_0 (h : Hp) (t : Int32) (tZ : Int) : Option Value → Hp → Prop := pVd (fun h' => Inv h' ∧ fr S_Sights_copyX_2_0 h h' ∧ (h'.1 46 4 = h.1 12 4 ∧ rcp h h' 47 13 8 ∧ rcp h h' 48 14 8 ∧ rcp h h' 49 15 8 ∧ rcp h h' 50 16 8))
set_option maxRecDepth 100000 in
theorem c_Sights_copyX_2_0 (h : Hp) (hI : Inv h) (t : Int32) (tZ : Int) (tE : t.toInt = tZ) (tK : h.1 12 4 = t) : Ct y_Sights_copyFrom b_Sights_copyFrom 2 none 1 60 [.ref 46, .ref 12] h (q_Sights_copyX_2_0 h t tZ) := by
  refine ct_ow R_Sights [some (.ref 46), some (.ref 12)] rfl (by decide) rfl (Nat.le_of_ble_eq_true rfl) ?_
  have f0 : fr S_Sights_copyX_2_0 h h := fr_rf
  have g1 : 0 ≤ tZ ∧ tZ ≤ 8 := inv_at hI tE tK.symm rfl
  refine V_aload_n 1 d_Sights_copyFrom_0 rfl rfl ?_
  refine V_getR fa_Sights_9 sk_12 rfl d_Sights_copyFrom_1 ?_
  refine V_iconst 0 d_Sights_copyFrom_4 (by decide) ?_
  refine V_aload_n 0 d_Sights_copyFrom_5 rfl rfl ?_
  refine V_getR fa_Sights_9 sk_46 rfl d_Sights_copyFrom_6 ?_
  refine V_iconst 0 d_Sights_copyFrom_9 (by decide) ?_
  refine V_bipush 8 d_Sights_copyFrom_10 (by decide) ?_
  refine N_acopy sk_13 sk_47 tc_0 tc_0 tc_8 (by omega) wa_Sights_24 wA1 wA2 wA3 d_Sights_copyFrom_12 (by decide) (Nat.le_of_ble_eq_true rfl) (fun h2 eh2 => ?_)
  have hI3 : Inv h2 := inv_cpy (n := 8) hI eh2 (fun _ => rfl)
  have f4 : fr S_Sights_copyX_2_0 h h2 := fr_row f0 eh2 (fun _ => rfl)
  have C5 : rcp h h2 47 13 8 := rcp_now f0 (fun _ => rfl) eh2
  refine V_aload_n 1 d_Sights_copyFrom_15 rfl rfl ?_
  refine V_getR fa_Sights_15 sk_12 rfl d_Sights_copyFrom_16 ?_
  refine V_iconst 0 d_Sights_copyFrom_19 (by decide) ?_
  refine V_aload_n 0 d_Sights_copyFrom_20 rfl rfl ?_
  refine V_getR fa_Sights_15 sk_46 rfl d_Sights_copyFrom_21 ?_
  refine V_iconst 0 d_Sights_copyFrom_24 (by decide) ?_
  refine V_bipush 8 d_Sights_copyFrom_25 (by decide) ?_
  refine N_acopy sk_14 sk_48 tc_0 tc_0 tc_8 (by omega) wa_Sights_24 wA1 wA2 wA3 d_Sights_copyFrom_27 (by decide) (Nat.le_of_ble_eq_true rfl) (fun h6 eh6 => ?_)
  have hI7 : Inv h6 := inv_cpy (n := 8) hI3 eh6 (fun _ => rfl)
  have f8 : fr S_Sights_copyX_2_0 h h6 := fr_row f4 eh6 (fun _ => rfl)
  have C9 : rcp h h6 47 13 8 := rcp_row C5 eh6 (by decide)
  have C10 : rcp h h6 48 14 8 := rcp_now f4 (fun _ => rfl) eh6
  refine V_aload_n 1 d_Sights_copyFrom_30 rfl rfl ?_
  refine V_getR fa_Sights_18 sk_12 rfl d_Sights_copyFrom_31 ?_
  refine V_iconst 0 d_Sights_copyFrom_34 (by decide) ?_
  refine V_aload_n 0 d_Sights_copyFrom_35 rfl rfl ?_
  refine V_getR fa_Sights_18 sk_46 rfl d_Sights_copyFrom_36 ?_
  refine V_iconst 0 d_Sights_copyFrom_39 (by decide) ?_
  refine V_bipush 8 d_Sights_copyFrom_40 (by decide) ?_
  refine N_acopy sk_15 sk_49 tc_0 tc_0 tc_8 (by omega) wa_Sights_24 wA1 wA2 wA3 d_Sights_copyFrom_42 (by decide) (Nat.le_of_ble_eq_true rfl) (fun h11 eh11 => ?_)
  have hI12 : Inv h11 := inv_cpy (n := 8) hI7 eh11 (fun _ => rfl)
  have f13 : fr S_Sights_copyX_2_0 h h11 := fr_row f8 eh11 (fun _ => rfl)
  have C14 : rcp h h11 47 13 8 := rcp_row C9 eh11 (by decide)
  have C15 : rcp h h11 48 14 8 := rcp_row C10 eh11 (by decide)
  have C16 : rcp h h11 49 15 8 := rcp_now f8 (fun _ => rfl) eh11
  refine V_aload_n 1 d_Sights_copyFrom_45 rfl rfl ?_
  refine V_getR fa_Sights_21 sk_12 rfl d_Sights_copyFrom_46 ?_
  refine V_iconst 0 d_Sights_copyFrom_49 (by decide) ?_
  refine V_aload_n 0 d_Sights_copyFrom_50 rfl rfl ?_
  refine V_getR fa_Sights_21 sk_46 rfl d_Sights_copyFrom_51 ?_
  refine V_iconst 0 d_Sights_copyFrom_54 (by decide) ?_
  refine V_bipush 8 d_Sights_copyFrom_55 (by decide) ?_
  refine N_acopy sk_16 sk_50 tc_0 tc_0 tc_8 (by omega) wa_Sights_24 wA1 wA2 wA3 d_Sights_copyFrom_57 (by decide) (Nat.le_of_ble_eq_true rfl) (fun h17 eh17 => ?_)
  have hI18 : Inv h17 := inv_cpy (n := 8) hI12 eh17 (fun _ => rfl)
  have f19 : fr S_Sights_copyX_2_0 h h17 := fr_row f13 eh17 (fun _ => rfl)
  have C20 : rcp h h17 47 13 8 := rcp_row C14 eh17 (by decide)
  have C21 : rcp h h17 48 14 8 := rcp_row C15 eh17 (by decide)
  have C22 : rcp h h17 49 15 8 := rcp_row C16 eh17 (by decide)
  have C23 : rcp h h17 50 16 8 := rcp_now f13 (fun _ => rfl) eh17
  refine V_aload_n 0 d_Sights_copyFrom_60 rfl rfl ?_
  refine V_aload_n 1 d_Sights_copyFrom_61 rfl rfl ?_
  refine N_getK fa_Sights_30 sk_12 rfl d_Sights_copyFrom_62 (kn_row eh17 (kn_row eh11 (kn_row eh6 (kn_row eh2 tK (by decide)) (by decide)) (by decide)) (by decide)) ?_
  refine N_putI fp_Sights_30 sk_46 rfl d_Sights_copyFrom_65 (fun h24 eh24 => ?_)
  have hI25 : Inv h24 := inv_put (lo := 0) (hi := 8) hI18 eh24 rfl tE (by omega)
  have f26 : fr S_Sights_copyX_2_0 h h24 := fr_put f19 eh24 rfl
  have C27 : rcp h h24 47 13 8 := rcp_put C20 eh24 (by decide)
  have C28 : rcp h h24 48 14 8 := rcp_put C21 eh24 (by decide)
  have C29 : rcp h h24 49 15 8 := rcp_put C22 eh24 (by decide)
  have C30 : rcp h h24 50 16 8 := rcp_put C23 eh24 (by decide)
  exact V_vret rfl d_Sights_copyFrom_68 ⟨rfl, ⟨hI25, f26, ⟨((kn_put eh24).trans tK.symm), C27, C28, C29, C30⟩⟩⟩
def S_County_copyX_2_0 : List (Nat × Option Nat) := [(34, some 3), (34, some 4), (35, none), (36, none), (37, none), (38, none), (39, none), (40, none), (41, some 4), (42, none), (43, none), (44, none), (45, none), (46, some 4), (47, none), (48, none), (49, none), (50, none)]
abbrev q_County_copyX_2_0 (h : Hp) (n : Int32) (nZ : Int) (m : Int32) (mZ : Int) : Option Value → Hp → Prop := pVd (fun h' => Inv h' ∧ fr S_County_copyX_2_0 h h' ∧ (cpy h h' 34 0))
set_option maxRecDepth 100000 in
theorem c_County_copyX_2_0 (h : Hp) (hI : Inv h) (n : Int32) (nZ : Int) (nE : n.toInt = nZ) (nK : h.1 0 3 = n) (m : Int32) (mZ : Int) (mE : m.toInt = mZ) (mK : h.1 0 4 = m) : Ct y_County_copyFrom b_County_copyFrom 2 none 2 81 [.ref 34, .ref 0] h (q_County_copyX_2_0 h n nZ m mZ) := by
  refine ct_ow R_County [some (.ref 34), some (.ref 0)] rfl (by decide) rfl (Nat.le_of_ble_eq_true rfl) ?_
  have f0 : fr S_County_copyX_2_0 h h := fr_rf
  refine V_aload_n 0 d_County_copyFrom_0 rfl rfl ?_
  refine V_getR fa_County_12 sk_34 rfl d_County_copyFrom_1 ?_
  refine V_aload_n 1 d_County_copyFrom_4 rfl rfl ?_
  refine V_getR fa_County_12 sk_0 rfl d_County_copyFrom_5 ?_
  obtain ⟨z1, z1Z, z1E, z1e⟩ : ∃ (y : Int32) (Y : Int), y.toInt = Y ∧ y = h.1 1 0 := ⟨_, _, rfl, rfl⟩
  have g2 : 2 ≤ z1Z ∧ z1Z ≤ 4 := inv_at hI z1E z1e rfl
  obtain ⟨z3, z3Z, z3E, z3e⟩ : ∃ (y : Int32) (Y : Int), y.toInt = Y ∧ y = h.1 1 1 := ⟨_, _, rfl, rfl⟩
  have g4 : 2 ≤ z3Z ∧ z3Z ≤ 4 := inv_at hI z3E z3e rfl
  obtain ⟨z5, z5Z, z5E, z5e⟩ : ∃ (y : Int32) (Y : Int), y.toInt = Y ∧ y = h.1 1 2 := ⟨_, _, rfl, rfl⟩
  obtain ⟨z6, z6Z, z6E, z6e⟩ : ∃ (y : Int32) (Y : Int), y.toInt = Y ∧ y = h.1 1 3 := ⟨_, _, rfl, rfl⟩
  refine N_callVV [.ref 1] [] cv_County_47 sk_35 rfl d_County_copyFrom_8 rfl (Nat.le_of_ble_eq_true rfl) (by decide) (by decide) (c_Land_copyX_2_0 h hI z1 z1Z z1E z1e.symm z3 z3Z z3E z3e.symm z5 z5Z z5E z5e.symm z6 z6Z z6E z6e.symm) (fun h8 p9 => ?_)
  obtain ⟨hI10, fh8, p9⟩ := p9
  have f11 : fr S_County_copyX_2_0 h h8 := fr_call f0 fh8 rfl
  have qL := p9
  refine V_aload_n 0 d_County_copyFrom_11 rfl rfl ?_
  refine V_getR fa_County_21 sk_34 rfl d_County_copyFrom_12 ?_
  refine V_aload_n 1 d_County_copyFrom_15 rfl rfl ?_
  refine V_getR fa_County_21 sk_0 rfl d_County_copyFrom_16 ?_
  obtain ⟨z12, z12Z, z12E, z12e⟩ : ∃ (y : Int32) (Y : Int), y.toInt = Y ∧ y = h8.1 7 4 := ⟨_, _, rfl, rfl⟩
  have g13 : 0 ≤ z12Z ∧ z12Z ≤ 8 := inv_at hI10 z12E z12e rfl
  refine N_callVV [.ref 7] [] cv_County_51 sk_41 rfl d_County_copyFrom_19 rfl (Nat.le_of_ble_eq_true rfl) (by decide) (by decide) (c_Ledger_copyX_2_0 h8 hI10 z12 z12Z z12E z12e.symm) (fun h15 p16 => ?_)
  obtain ⟨hI17, fh15, p16⟩ := p16
  have f18 : fr S_County_copyX_2_0 h h15 := fr_call f11 fh15 rfl
  have qG := p16
  refine V_aload_n 0 d_County_copyFrom_22 rfl rfl ?_
  refine V_getR fa_County_28 sk_34 rfl d_County_copyFrom_23 ?_
  refine V_aload_n 1 d_County_copyFrom_26 rfl rfl ?_
  refine V_getR fa_County_28 sk_0 rfl d_County_copyFrom_27 ?_
  obtain ⟨z19, z19Z, z19E, z19e⟩ : ∃ (y : Int32) (Y : Int), y.toInt = Y ∧ y = h15.1 12 4 := ⟨_, _, rfl, rfl⟩
  have g20 : 0 ≤ z19Z ∧ z19Z ≤ 8 := inv_at hI17 z19E z19e rfl
  refine N_callVV [.ref 12] [] cv_County_54 sk_46 rfl d_County_copyFrom_30 rfl (Nat.le_of_ble_eq_true rfl) (by decide) (by decide) (c_Sights_copyX_2_0 h15 hI17 z19 z19Z z19E z19e.symm) (fun h22 p23 => ?_)
  obtain ⟨hI24, fh22, p23⟩ := p23
  have f25 : fr S_County_copyX_2_0 h h22 := fr_call f18 fh22 rfl
  have qS := p23
  refine V_aload_n 0 d_County_copyFrom_33 rfl rfl ?_
  refine V_aload_n 1 d_County_copyFrom_34 rfl rfl ?_
  refine N_getK fa_County_41 sk_0 rfl d_County_copyFrom_35 (kn_call fh22 (kn_call fh15 (kn_call fh8 nK rfl) rfl) rfl) ?_
  refine N_putI fp_County_41 sk_34 rfl d_County_copyFrom_38 (fun h26 eh26 => ?_)
  have hI27 : Inv h26 := inv_full hI24 eh26 rfl
  have f28 : fr S_County_copyX_2_0 h h26 := fr_put f25 eh26 rfl
  refine V_aload_n 0 d_County_copyFrom_41 rfl rfl ?_
  refine V_aload_n 1 d_County_copyFrom_42 rfl rfl ?_
  refine N_getK fa_County_44 sk_0 rfl d_County_copyFrom_43 (kn_ne eh26 (kn_call fh22 (kn_call fh15 (kn_call fh8 mK rfl) rfl) rfl) (by decide)) ?_
  refine N_putI fp_County_44 sk_34 rfl d_County_copyFrom_46 (fun h29 eh29 => ?_)
  have hI30 : Inv h29 := inv_full hI27 eh29 rfl
  have f31 : fr S_County_copyX_2_0 h h29 := fr_put f28 eh29 rfl
  exact V_vret rfl d_County_copyFrom_49 ⟨rfl, ⟨hI30, f31, (cpy_of (a := 34) (b := 0) qL fh15 qG fh22 qS fh8 eh26 eh29 nK mK rfl rfl rfl rfl)⟩⟩
def S_Land_copyX_3_0 : List (Nat × Option Nat) := [(52, none), (53, none), (54, none), (55, none), (56, none), (57, none)]
abbrev q_Land_copyX_3_0 (h : Hp) (w : Int32) (wZ : Int) (g : Int32) (gZ : Int) (x : Int32) (xZ : Int) (y : Int32) (yZ : Int) : Option Value → Hp → Prop := pVd (fun h' => Inv h' ∧ fr S_Land_copyX_3_0 h h' ∧ (h'.1 52 0 = h.1 1 0 ∧ h'.1 52 1 = h.1 1 1 ∧ h'.1 52 2 = h.1 1 2 ∧ h'.1 52 3 = h.1 1 3 ∧ rcp h h' 53 2 16 ∧ rcp h h' 54 3 16 ∧ rcp h h' 55 4 16 ∧ rcp h h' 56 5 16 ∧ rcp h h' 57 6 16))
set_option maxRecDepth 100000 in
theorem c_Land_copyX_3_0 (h : Hp) (hI : Inv h) (w : Int32) (wZ : Int) (wE : w.toInt = wZ) (wK : h.1 1 0 = w) (g : Int32) (gZ : Int) (gE : g.toInt = gZ) (gK : h.1 1 1 = g) (x : Int32) (xZ : Int) (xE : x.toInt = xZ) (xK : h.1 1 2 = x) (y : Int32) (yZ : Int) (yE : y.toInt = yZ) (yK : h.1 1 3 = y) : Ct y_Land_copyFrom b_Land_copyFrom 2 none 1 60 [.ref 52, .ref 1] h (q_Land_copyX_3_0 h w wZ g gZ x xZ y yZ) := by
  refine ct_ow R_Land [some (.ref 52), some (.ref 1)] rfl (by decide) rfl (Nat.le_of_ble_eq_true rfl) ?_
  have f0 : fr S_Land_copyX_3_0 h h := fr_rf
  have g1 : 2 ≤ wZ ∧ wZ ≤ 4 := inv_at hI wE wK.symm rfl
  have g2 : 2 ≤ gZ ∧ gZ ≤ 4 := inv_at hI gE gK.symm rfl
  refine V_aload_n 0 d_Land_copyFrom_0 rfl rfl ?_
  refine V_aload_n 1 d_Land_copyFrom_1 rfl rfl ?_
  refine N_getK fa_Land_27 sk_1 rfl d_Land_copyFrom_2 wK ?_
  refine N_putI fp_Land_27 sk_52 rfl d_Land_copyFrom_5 (fun h3 eh3 => ?_)
  have hI4 : Inv h3 := inv_put (lo := 2) (hi := 4) hI eh3 rfl wE (by omega)
  have f5 : fr S_Land_copyX_3_0 h h3 := fr_put f0 eh3 rfl
  refine V_aload_n 0 d_Land_copyFrom_8 rfl rfl ?_
  refine V_aload_n 1 d_Land_copyFrom_9 rfl rfl ?_
  refine N_getK fa_Land_31 sk_1 rfl d_Land_copyFrom_10 (kn_ne eh3 gK (by decide)) ?_
  refine N_putI fp_Land_31 sk_52 rfl d_Land_copyFrom_13 (fun h6 eh6 => ?_)
  have hI7 : Inv h6 := inv_put (lo := 2) (hi := 4) hI4 eh6 rfl gE (by omega)
  have f8 : fr S_Land_copyX_3_0 h h6 := fr_put f5 eh6 rfl
  refine V_aload_n 0 d_Land_copyFrom_16 rfl rfl ?_
  refine V_aload_n 1 d_Land_copyFrom_17 rfl rfl ?_
  refine N_getK fa_Land_34 sk_1 rfl d_Land_copyFrom_18 (kn_ne eh6 (kn_ne eh3 xK (by decide)) (by decide)) ?_
  refine N_putI fp_Land_34 sk_52 rfl d_Land_copyFrom_21 (fun h9 eh9 => ?_)
  have hI10 : Inv h9 := inv_full hI7 eh9 rfl
  have f11 : fr S_Land_copyX_3_0 h h9 := fr_put f8 eh9 rfl
  refine V_aload_n 0 d_Land_copyFrom_24 rfl rfl ?_
  refine V_aload_n 1 d_Land_copyFrom_25 rfl rfl ?_
  refine N_getK fa_Land_37 sk_1 rfl d_Land_copyFrom_26 (kn_ne eh9 (kn_ne eh6 (kn_ne eh3 yK (by decide)) (by decide)) (by decide)) ?_
  refine N_putI fp_Land_37 sk_52 rfl d_Land_copyFrom_29 (fun h12 eh12 => ?_)
  have hI13 : Inv h12 := inv_full hI10 eh12 rfl
  have f14 : fr S_Land_copyX_3_0 h h12 := fr_put f11 eh12 rfl
  refine V_aload_n 1 d_Land_copyFrom_32 rfl rfl ?_
  refine V_getR fa_Land_9 sk_1 rfl d_Land_copyFrom_33 ?_
  refine V_iconst 0 d_Land_copyFrom_36 (by decide) ?_
  refine V_aload_n 0 d_Land_copyFrom_37 rfl rfl ?_
  refine V_getR fa_Land_9 sk_52 rfl d_Land_copyFrom_38 ?_
  refine V_iconst 0 d_Land_copyFrom_41 (by decide) ?_
  refine V_bipush 16 d_Land_copyFrom_42 (by decide) ?_
  refine N_acopy sk_2 sk_53 tc_0 tc_0 tc_16 (by omega) wa_Land_46 wA1 wA2 wA3 d_Land_copyFrom_44 (by decide) (Nat.le_of_ble_eq_true rfl) (fun h15 eh15 => ?_)
  have hI16 : Inv h15 := inv_cpy (n := 16) hI13 eh15 (fun _ => rfl)
  have f17 : fr S_Land_copyX_3_0 h h15 := fr_row f14 eh15 (fun _ => rfl)
  have C18 : rcp h h15 53 2 16 := rcp_now f14 (fun _ => rfl) eh15
  refine V_aload_n 1 d_Land_copyFrom_47 rfl rfl ?_
  refine V_getR fa_Land_15 sk_1 rfl d_Land_copyFrom_48 ?_
  refine V_iconst 0 d_Land_copyFrom_51 (by decide) ?_
  refine V_aload_n 0 d_Land_copyFrom_52 rfl rfl ?_
  refine V_getR fa_Land_15 sk_52 rfl d_Land_copyFrom_53 ?_
  refine V_iconst 0 d_Land_copyFrom_56 (by decide) ?_
  refine V_bipush 16 d_Land_copyFrom_57 (by decide) ?_
  refine N_acopy sk_3 sk_54 tc_0 tc_0 tc_16 (by omega) wa_Land_46 wA1 wA2 wA3 d_Land_copyFrom_59 (by decide) (Nat.le_of_ble_eq_true rfl) (fun h19 eh19 => ?_)
  have hI20 : Inv h19 := inv_cpy (n := 16) hI16 eh19 (fun _ => rfl)
  have f21 : fr S_Land_copyX_3_0 h h19 := fr_row f17 eh19 (fun _ => rfl)
  have C22 : rcp h h19 53 2 16 := rcp_row C18 eh19 (by decide)
  have C23 : rcp h h19 54 3 16 := rcp_now f17 (fun _ => rfl) eh19
  refine V_aload_n 1 d_Land_copyFrom_62 rfl rfl ?_
  refine V_getR fa_Land_18 sk_1 rfl d_Land_copyFrom_63 ?_
  refine V_iconst 0 d_Land_copyFrom_66 (by decide) ?_
  refine V_aload_n 0 d_Land_copyFrom_67 rfl rfl ?_
  refine V_getR fa_Land_18 sk_52 rfl d_Land_copyFrom_68 ?_
  refine V_iconst 0 d_Land_copyFrom_71 (by decide) ?_
  refine V_bipush 16 d_Land_copyFrom_72 (by decide) ?_
  refine N_acopy sk_4 sk_55 tc_0 tc_0 tc_16 (by omega) wa_Land_46 wA1 wA2 wA3 d_Land_copyFrom_74 (by decide) (Nat.le_of_ble_eq_true rfl) (fun h24 eh24 => ?_)
  have hI25 : Inv h24 := inv_cpy (n := 16) hI20 eh24 (fun _ => rfl)
  have f26 : fr S_Land_copyX_3_0 h h24 := fr_row f21 eh24 (fun _ => rfl)
  have C27 : rcp h h24 53 2 16 := rcp_row C22 eh24 (by decide)
  have C28 : rcp h h24 54 3 16 := rcp_row C23 eh24 (by decide)
  have C29 : rcp h h24 55 4 16 := rcp_now f21 (fun _ => rfl) eh24
  refine V_aload_n 1 d_Land_copyFrom_77 rfl rfl ?_
  refine V_getR fa_Land_21 sk_1 rfl d_Land_copyFrom_78 ?_
  refine V_iconst 0 d_Land_copyFrom_81 (by decide) ?_
  refine V_aload_n 0 d_Land_copyFrom_82 rfl rfl ?_
  refine V_getR fa_Land_21 sk_52 rfl d_Land_copyFrom_83 ?_
  refine V_iconst 0 d_Land_copyFrom_86 (by decide) ?_
  refine V_bipush 16 d_Land_copyFrom_87 (by decide) ?_
  refine N_acopy sk_5 sk_56 tc_0 tc_0 tc_16 (by omega) wa_Land_46 wA1 wA2 wA3 d_Land_copyFrom_89 (by decide) (Nat.le_of_ble_eq_true rfl) (fun h30 eh30 => ?_)
  have hI31 : Inv h30 := inv_cpy (n := 16) hI25 eh30 (fun _ => rfl)
  have f32 : fr S_Land_copyX_3_0 h h30 := fr_row f26 eh30 (fun _ => rfl)
  have C33 : rcp h h30 53 2 16 := rcp_row C27 eh30 (by decide)
  have C34 : rcp h h30 54 3 16 := rcp_row C28 eh30 (by decide)
  have C35 : rcp h h30 55 4 16 := rcp_row C29 eh30 (by decide)
  have C36 : rcp h h30 56 5 16 := rcp_now f26 (fun _ => rfl) eh30
  refine V_aload_n 1 d_Land_copyFrom_92 rfl rfl ?_
  refine V_getR fa_Land_24 sk_1 rfl d_Land_copyFrom_93 ?_
  refine V_iconst 0 d_Land_copyFrom_96 (by decide) ?_
  refine V_aload_n 0 d_Land_copyFrom_97 rfl rfl ?_
  refine V_getR fa_Land_24 sk_52 rfl d_Land_copyFrom_98 ?_
  refine V_iconst 0 d_Land_copyFrom_101 (by decide) ?_
  refine V_bipush 16 d_Land_copyFrom_102 (by decide) ?_
  refine N_acopy sk_6 sk_57 tc_0 tc_0 tc_16 (by omega) wa_Land_46 wA1 wA2 wA3 d_Land_copyFrom_104 (by decide) (Nat.le_of_ble_eq_true rfl) (fun h37 eh37 => ?_)
  have hI38 : Inv h37 := inv_cpy (n := 16) hI31 eh37 (fun _ => rfl)
  have f39 : fr S_Land_copyX_3_0 h h37 := fr_row f32 eh37 (fun _ => rfl)
  have C40 : rcp h h37 53 2 16 := rcp_row C33 eh37 (by decide)
  have C41 : rcp h h37 54 3 16 := rcp_row C34 eh37 (by decide)
  have C42 : rcp h h37 55 4 16 := rcp_row C35 eh37 (by decide)
  have C43 : rcp h h37 56 5 16 := rcp_row C36 eh37 (by decide)
  have C44 : rcp h h37 57 6 16 := rcp_now f32 (fun _ => rfl) eh37
  exact V_vret rfl d_Land_copyFrom_107 ⟨rfl, ⟨hI38, f39, ⟨((kn_row eh37 (kn_row eh30 (kn_row eh24 (kn_row eh19 (kn_row eh15 (kn_nei eh12 (kn_nei eh9 (kn_nei eh6 (kn_put eh3) (by decide)) (by decide)) (by decide)) (by decide)) (by decide)) (by decide)) (by decide)) (by decide)).trans wK.symm), ((kn_row eh37 (kn_row eh30 (kn_row eh24 (kn_row eh19 (kn_row eh15 (kn_nei eh12 (kn_nei eh9 (kn_put eh6) (by decide)) (by decide)) (by decide)) (by decide)) (by decide)) (by decide)) (by decide)).trans gK.symm), ((kn_row eh37 (kn_row eh30 (kn_row eh24 (kn_row eh19 (kn_row eh15 (kn_nei eh12 (kn_put eh9) (by decide)) (by decide)) (by decide)) (by decide)) (by decide)) (by decide)).trans xK.symm), ((kn_row eh37 (kn_row eh30 (kn_row eh24 (kn_row eh19 (kn_row eh15 (kn_put eh12) (by decide)) (by decide)) (by decide)) (by decide)) (by decide)).trans yK.symm), C40, C41, C42, C43, C44⟩⟩⟩
def S_Ledger_copyX_3_0 : List (Nat × Option Nat) := [(58, some 4), (59, none), (60, none), (61, none), (62, none)]
abbrev q_Ledger_copyX_3_0 (h : Hp) (t : Int32) (tZ : Int) : Option Value → Hp → Prop := pVd (fun h' => Inv h' ∧ fr S_Ledger_copyX_3_0 h h' ∧ (h'.1 58 4 = h.1 7 4 ∧ rcp h h' 59 8 4 ∧ rcp h h' 60 9 8 ∧ rcp h h' 61 10 8 ∧ rcp h h' 62 11 8))
set_option maxRecDepth 100000 in
theorem c_Ledger_copyX_3_0 (h : Hp) (hI : Inv h) (t : Int32) (tZ : Int) (tE : t.toInt = tZ) (tK : h.1 7 4 = t) : Ct y_Ledger_copyFrom b_Ledger_copyFrom 2 none 1 60 [.ref 58, .ref 7] h (q_Ledger_copyX_3_0 h t tZ) := by
  refine ct_ow R_Ledger [some (.ref 58), some (.ref 7)] rfl (by decide) rfl (Nat.le_of_ble_eq_true rfl) ?_
  have f0 : fr S_Ledger_copyX_3_0 h h := fr_rf
  have g1 : 0 ≤ tZ ∧ tZ ≤ 8 := inv_at hI tE tK.symm rfl
  refine V_aload_n 1 d_Ledger_copyFrom_0 rfl rfl ?_
  refine V_getR fa_Ledger_9 sk_7 rfl d_Ledger_copyFrom_1 ?_
  refine V_iconst 0 d_Ledger_copyFrom_4 (by decide) ?_
  refine V_aload_n 0 d_Ledger_copyFrom_5 rfl rfl ?_
  refine V_getR fa_Ledger_9 sk_58 rfl d_Ledger_copyFrom_6 ?_
  refine V_iconst 0 d_Ledger_copyFrom_9 (by decide) ?_
  refine V_iconst 4 d_Ledger_copyFrom_10 (by decide) ?_
  refine N_acopy sk_8 sk_59 tc_0 tc_0 tc_4 (by omega) wa_Ledger_34 wA1 wA2 wA3 d_Ledger_copyFrom_11 (by decide) (Nat.le_of_ble_eq_true rfl) (fun h2 eh2 => ?_)
  have hI3 : Inv h2 := inv_cpy (n := 4) hI eh2 (fun _ => rfl)
  have f4 : fr S_Ledger_copyX_3_0 h h2 := fr_row f0 eh2 (fun _ => rfl)
  have C5 : rcp h h2 59 8 4 := rcp_now f0 (fun _ => rfl) eh2
  refine V_aload_n 1 d_Ledger_copyFrom_14 rfl rfl ?_
  refine V_getR fa_Ledger_15 sk_7 rfl d_Ledger_copyFrom_15 ?_
  refine V_iconst 0 d_Ledger_copyFrom_18 (by decide) ?_
  refine V_aload_n 0 d_Ledger_copyFrom_19 rfl rfl ?_
  refine V_getR fa_Ledger_15 sk_58 rfl d_Ledger_copyFrom_20 ?_
  refine V_iconst 0 d_Ledger_copyFrom_23 (by decide) ?_
  refine V_bipush 8 d_Ledger_copyFrom_24 (by decide) ?_
  refine N_acopy sk_9 sk_60 tc_0 tc_0 tc_8 (by omega) wa_Ledger_34 wA1 wA2 wA3 d_Ledger_copyFrom_26 (by decide) (Nat.le_of_ble_eq_true rfl) (fun h6 eh6 => ?_)
  have hI7 : Inv h6 := inv_cpy (n := 8) hI3 eh6 (fun _ => rfl)
  have f8 : fr S_Ledger_copyX_3_0 h h6 := fr_row f4 eh6 (fun _ => rfl)
  have C9 : rcp h h6 59 8 4 := rcp_row C5 eh6 (by decide)
  have C10 : rcp h h6 60 9 8 := rcp_now f4 (fun _ => rfl) eh6
  refine V_aload_n 1 d_Ledger_copyFrom_29 rfl rfl ?_
  refine V_getR fa_Ledger_18 sk_7 rfl d_Ledger_copyFrom_30 ?_
  refine V_iconst 0 d_Ledger_copyFrom_33 (by decide) ?_
  refine V_aload_n 0 d_Ledger_copyFrom_34 rfl rfl ?_
  refine V_getR fa_Ledger_18 sk_58 rfl d_Ledger_copyFrom_35 ?_
  refine V_iconst 0 d_Ledger_copyFrom_38 (by decide) ?_
  refine V_bipush 8 d_Ledger_copyFrom_39 (by decide) ?_
  refine N_acopy sk_10 sk_61 tc_0 tc_0 tc_8 (by omega) wa_Ledger_34 wA1 wA2 wA3 d_Ledger_copyFrom_41 (by decide) (Nat.le_of_ble_eq_true rfl) (fun h11 eh11 => ?_)
  have hI12 : Inv h11 := inv_cpy (n := 8) hI7 eh11 (fun _ => rfl)
  have f13 : fr S_Ledger_copyX_3_0 h h11 := fr_row f8 eh11 (fun _ => rfl)
  have C14 : rcp h h11 59 8 4 := rcp_row C9 eh11 (by decide)
  have C15 : rcp h h11 60 9 8 := rcp_row C10 eh11 (by decide)
  have C16 : rcp h h11 61 10 8 := rcp_now f8 (fun _ => rfl) eh11
  refine V_aload_n 1 d_Ledger_copyFrom_44 rfl rfl ?_
  refine V_getR fa_Ledger_21 sk_7 rfl d_Ledger_copyFrom_45 ?_
  refine V_iconst 0 d_Ledger_copyFrom_48 (by decide) ?_
  refine V_aload_n 0 d_Ledger_copyFrom_49 rfl rfl ?_
  refine V_getR fa_Ledger_21 sk_58 rfl d_Ledger_copyFrom_50 ?_
  refine V_iconst 0 d_Ledger_copyFrom_53 (by decide) ?_
  refine V_bipush 8 d_Ledger_copyFrom_54 (by decide) ?_
  refine N_acopy sk_11 sk_62 tc_0 tc_0 tc_8 (by omega) wa_Ledger_34 wA1 wA2 wA3 d_Ledger_copyFrom_56 (by decide) (Nat.le_of_ble_eq_true rfl) (fun h17 eh17 => ?_)
  have hI18 : Inv h17 := inv_cpy (n := 8) hI12 eh17 (fun _ => rfl)
  have f19 : fr S_Ledger_copyX_3_0 h h17 := fr_row f13 eh17 (fun _ => rfl)
  have C20 : rcp h h17 59 8 4 := rcp_row C14 eh17 (by decide)
  have C21 : rcp h h17 60 9 8 := rcp_row C15 eh17 (by decide)
  have C22 : rcp h h17 61 10 8 := rcp_row C16 eh17 (by decide)
  have C23 : rcp h h17 62 11 8 := rcp_now f13 (fun _ => rfl) eh17
  refine V_aload_n 0 d_Ledger_copyFrom_59 rfl rfl ?_
  refine V_aload_n 1 d_Ledger_copyFrom_60 rfl rfl ?_
  refine N_getK fa_Ledger_30 sk_7 rfl d_Ledger_copyFrom_61 (kn_row eh17 (kn_row eh11 (kn_row eh6 (kn_row eh2 tK (by decide)) (by decide)) (by decide)) (by decide)) ?_
  refine N_putI fp_Ledger_30 sk_58 rfl d_Ledger_copyFrom_64 (fun h24 eh24 => ?_)
  have hI25 : Inv h24 := inv_put (lo := 0) (hi := 8) hI18 eh24 rfl tE (by omega)
  have f26 : fr S_Ledger_copyX_3_0 h h24 := fr_put f19 eh24 rfl
  have C27 : rcp h h24 59 8 4 := rcp_put C20 eh24 (by decide)
  have C28 : rcp h h24 60 9 8 := rcp_put C21 eh24 (by decide)
  have C29 : rcp h h24 61 10 8 := rcp_put C22 eh24 (by decide)
  have C30 : rcp h h24 62 11 8 := rcp_put C23 eh24 (by decide)
  exact V_vret rfl d_Ledger_copyFrom_67 ⟨rfl, ⟨hI25, f26, ⟨((kn_put eh24).trans tK.symm), C27, C28, C29, C30⟩⟩⟩
def S_Sights_copyX_3_0 : List (Nat × Option Nat) := [(63, some 4), (64, none), (65, none), (66, none), (67, none)]
abbrev q_Sights_copyX_3_0 (h : Hp) (t : Int32) (tZ : Int) : Option Value → Hp → Prop := pVd (fun h' => Inv h' ∧ fr S_Sights_copyX_3_0 h h' ∧ (h'.1 63 4 = h.1 12 4 ∧ rcp h h' 64 13 8 ∧ rcp h h' 65 14 8 ∧ rcp h h' 66 15 8 ∧ rcp h h' 67 16 8))
set_option maxRecDepth 100000 in
theorem c_Sights_copyX_3_0 (h : Hp) (hI : Inv h) (t : Int32) (tZ : Int) (tE : t.toInt = tZ) (tK : h.1 12 4 = t) : Ct y_Sights_copyFrom b_Sights_copyFrom 2 none 1 60 [.ref 63, .ref 12] h (q_Sights_copyX_3_0 h t tZ) := by
  refine ct_ow R_Sights [some (.ref 63), some (.ref 12)] rfl (by decide) rfl (Nat.le_of_ble_eq_true rfl) ?_
  have f0 : fr S_Sights_copyX_3_0 h h := fr_rf
  have g1 : 0 ≤ tZ ∧ tZ ≤ 8 := inv_at hI tE tK.symm rfl
  refine V_aload_n 1 d_Sights_copyFrom_0 rfl rfl ?_
  refine V_getR fa_Sights_9 sk_12 rfl d_Sights_copyFrom_1 ?_
  refine V_iconst 0 d_Sights_copyFrom_4 (by decide) ?_
  refine V_aload_n 0 d_Sights_copyFrom_5 rfl rfl ?_
  refine V_getR fa_Sights_9 sk_63 rfl d_Sights_copyFrom_6 ?_
  refine V_iconst 0 d_Sights_copyFrom_9 (by decide) ?_
  refine V_bipush 8 d_Sights_copyFrom_10 (by decide) ?_
  refine N_acopy sk_13 sk_64 tc_0 tc_0 tc_8 (by omega) wa_Sights_24 wA1 wA2 wA3 d_Sights_copyFrom_12 (by decide) (Nat.le_of_ble_eq_true rfl) (fun h2 eh2 => ?_)
  have hI3 : Inv h2 := inv_cpy (n := 8) hI eh2 (fun _ => rfl)
  have f4 : fr S_Sights_copyX_3_0 h h2 := fr_row f0 eh2 (fun _ => rfl)
  have C5 : rcp h h2 64 13 8 := rcp_now f0 (fun _ => rfl) eh2
  refine V_aload_n 1 d_Sights_copyFrom_15 rfl rfl ?_
  refine V_getR fa_Sights_15 sk_12 rfl d_Sights_copyFrom_16 ?_
  refine V_iconst 0 d_Sights_copyFrom_19 (by decide) ?_
  refine V_aload_n 0 d_Sights_copyFrom_20 rfl rfl ?_
  refine V_getR fa_Sights_15 sk_63 rfl d_Sights_copyFrom_21 ?_
  refine V_iconst 0 d_Sights_copyFrom_24 (by decide) ?_
  refine V_bipush 8 d_Sights_copyFrom_25 (by decide) ?_
  refine N_acopy sk_14 sk_65 tc_0 tc_0 tc_8 (by omega) wa_Sights_24 wA1 wA2 wA3 d_Sights_copyFrom_27 (by decide) (Nat.le_of_ble_eq_true rfl) (fun h6 eh6 => ?_)
  have hI7 : Inv h6 := inv_cpy (n := 8) hI3 eh6 (fun _ => rfl)
  have f8 : fr S_Sights_copyX_3_0 h h6 := fr_row f4 eh6 (fun _ => rfl)
  have C9 : rcp h h6 64 13 8 := rcp_row C5 eh6 (by decide)
  have C10 : rcp h h6 65 14 8 := rcp_now f4 (fun _ => rfl) eh6
  refine V_aload_n 1 d_Sights_copyFrom_30 rfl rfl ?_
  refine V_getR fa_Sights_18 sk_12 rfl d_Sights_copyFrom_31 ?_
  refine V_iconst 0 d_Sights_copyFrom_34 (by decide) ?_
  refine V_aload_n 0 d_Sights_copyFrom_35 rfl rfl ?_
  refine V_getR fa_Sights_18 sk_63 rfl d_Sights_copyFrom_36 ?_
  refine V_iconst 0 d_Sights_copyFrom_39 (by decide) ?_
  refine V_bipush 8 d_Sights_copyFrom_40 (by decide) ?_
  refine N_acopy sk_15 sk_66 tc_0 tc_0 tc_8 (by omega) wa_Sights_24 wA1 wA2 wA3 d_Sights_copyFrom_42 (by decide) (Nat.le_of_ble_eq_true rfl) (fun h11 eh11 => ?_)
  have hI12 : Inv h11 := inv_cpy (n := 8) hI7 eh11 (fun _ => rfl)
  have f13 : fr S_Sights_copyX_3_0 h h11 := fr_row f8 eh11 (fun _ => rfl)
  have C14 : rcp h h11 64 13 8 := rcp_row C9 eh11 (by decide)
  have C15 : rcp h h11 65 14 8 := rcp_row C10 eh11 (by decide)
  have C16 : rcp h h11 66 15 8 := rcp_now f8 (fun _ => rfl) eh11
  refine V_aload_n 1 d_Sights_copyFrom_45 rfl rfl ?_
  refine V_getR fa_Sights_21 sk_12 rfl d_Sights_copyFrom_46 ?_
  refine V_iconst 0 d_Sights_copyFrom_49 (by decide) ?_
  refine V_aload_n 0 d_Sights_copyFrom_50 rfl rfl ?_
  refine V_getR fa_Sights_21 sk_63 rfl d_Sights_copyFrom_51 ?_
  refine V_iconst 0 d_Sights_copyFrom_54 (by decide) ?_
  refine V_bipush 8 d_Sights_copyFrom_55 (by decide) ?_
  refine N_acopy sk_16 sk_67 tc_0 tc_0 tc_8 (by omega) wa_Sights_24 wA1 wA2 wA3 d_Sights_copyFrom_57 (by decide) (Nat.le_of_ble_eq_true rfl) (fun h17 eh17 => ?_)
  have hI18 : Inv h17 := inv_cpy (n := 8) hI12 eh17 (fun _ => rfl)
  have f19 : fr S_Sights_copyX_3_0 h h17 := fr_row f13 eh17 (fun _ => rfl)
  have C20 : rcp h h17 64 13 8 := rcp_row C14 eh17 (by decide)
  have C21 : rcp h h17 65 14 8 := rcp_row C15 eh17 (by decide)
  have C22 : rcp h h17 66 15 8 := rcp_row C16 eh17 (by decide)
  have C23 : rcp h h17 67 16 8 := rcp_now f13 (fun _ => rfl) eh17
  refine V_aload_n 0 d_Sights_copyFrom_60 rfl rfl ?_
  refine V_aload_n 1 d_Sights_copyFrom_61 rfl rfl ?_
  refine N_getK fa_Sights_30 sk_12 rfl d_Sights_copyFrom_62 (kn_row eh17 (kn_row eh11 (kn_row eh6 (kn_row eh2 tK (by decide)) (by decide)) (by decide)) (by decide)) ?_
  refine N_putI fp_Sights_30 sk_63 rfl d_Sights_copyFrom_65 (fun h24 eh24 => ?_)
  have hI25 : Inv h24 := inv_put (lo := 0) (hi := 8) hI18 eh24 rfl tE (by omega)
  have f26 : fr S_Sights_copyX_3_0 h h24 := fr_put f19 eh24 rfl
  have C27 : rcp h h24 64 13 8 := rcp_put C20 eh24 (by decide)
  have C28 : rcp h h24 65 14 8 := rcp_put C21 eh24 (by decide)
  have C29 : rcp h h24 66 15 8 := rcp_put C22 eh24 (by decide)
  have C30 : rcp h h24 67 16 8 := rcp_put C23 eh24 (by decide)
  exact V_vret rfl d_Sights_copyFrom_68 ⟨rfl, ⟨hI25, f26, ⟨((kn_put eh24).trans tK.symm), C27, C28, C29, C30⟩⟩⟩
def S_County_copyX_3_0 : List (Nat × Option Nat) := [(51, some 3), (51, some 4), (52, none), (53, none), (54, none), (55, none), (56, none), (57, none), (58, some 4), (59, none), (60, none), (61, none), (62, none), (63, some 4), (64, none), (65, none), (66, none), (67, none)]
abbrev q_County_copyX_3_0 (h : Hp) (n : Int32) (nZ : Int) (m : Int32) (mZ : Int) : Option Value → Hp → Prop := pVd (fun h' => Inv h' ∧ fr S_County_copyX_3_0 h h' ∧ (cpy h h' 51 0))
set_option maxRecDepth 100000 in
theorem c_County_copyX_3_0 (h : Hp) (hI : Inv h) (n : Int32) (nZ : Int) (nE : n.toInt = nZ) (nK : h.1 0 3 = n) (m : Int32) (mZ : Int) (mE : m.toInt = mZ) (mK : h.1 0 4 = m) : Ct y_County_copyFrom b_County_copyFrom 2 none 2 81 [.ref 51, .ref 0] h (q_County_copyX_3_0 h n nZ m mZ) := by
  refine ct_ow R_County [some (.ref 51), some (.ref 0)] rfl (by decide) rfl (Nat.le_of_ble_eq_true rfl) ?_
  have f0 : fr S_County_copyX_3_0 h h := fr_rf
  refine V_aload_n 0 d_County_copyFrom_0 rfl rfl ?_
  refine V_getR fa_County_12 sk_51 rfl d_County_copyFrom_1 ?_
  refine V_aload_n 1 d_County_copyFrom_4 rfl rfl ?_
  refine V_getR fa_County_12 sk_0 rfl d_County_copyFrom_5 ?_
  obtain ⟨z1, z1Z, z1E, z1e⟩ : ∃ (y : Int32) (Y : Int), y.toInt = Y ∧ y = h.1 1 0 := ⟨_, _, rfl, rfl⟩
  have g2 : 2 ≤ z1Z ∧ z1Z ≤ 4 := inv_at hI z1E z1e rfl
  obtain ⟨z3, z3Z, z3E, z3e⟩ : ∃ (y : Int32) (Y : Int), y.toInt = Y ∧ y = h.1 1 1 := ⟨_, _, rfl, rfl⟩
  have g4 : 2 ≤ z3Z ∧ z3Z ≤ 4 := inv_at hI z3E z3e rfl
  obtain ⟨z5, z5Z, z5E, z5e⟩ : ∃ (y : Int32) (Y : Int), y.toInt = Y ∧ y = h.1 1 2 := ⟨_, _, rfl, rfl⟩
  obtain ⟨z6, z6Z, z6E, z6e⟩ : ∃ (y : Int32) (Y : Int), y.toInt = Y ∧ y = h.1 1 3 := ⟨_, _, rfl, rfl⟩
  refine N_callVV [.ref 1] [] cv_County_47 sk_52 rfl d_County_copyFrom_8 rfl (Nat.le_of_ble_eq_true rfl) (by decide) (by decide) (c_Land_copyX_3_0 h hI z1 z1Z z1E z1e.symm z3 z3Z z3E z3e.symm z5 z5Z z5E z5e.symm z6 z6Z z6E z6e.symm) (fun h8 p9 => ?_)
  obtain ⟨hI10, fh8, p9⟩ := p9
  have f11 : fr S_County_copyX_3_0 h h8 := fr_call f0 fh8 rfl
  have qL := p9
  refine V_aload_n 0 d_County_copyFrom_11 rfl rfl ?_
  refine V_getR fa_County_21 sk_51 rfl d_County_copyFrom_12 ?_
  refine V_aload_n 1 d_County_copyFrom_15 rfl rfl ?_
  refine V_getR fa_County_21 sk_0 rfl d_County_copyFrom_16 ?_
  obtain ⟨z12, z12Z, z12E, z12e⟩ : ∃ (y : Int32) (Y : Int), y.toInt = Y ∧ y = h8.1 7 4 := ⟨_, _, rfl, rfl⟩
  have g13 : 0 ≤ z12Z ∧ z12Z ≤ 8 := inv_at hI10 z12E z12e rfl
  refine N_callVV [.ref 7] [] cv_County_51 sk_58 rfl d_County_copyFrom_19 rfl (Nat.le_of_ble_eq_true rfl) (by decide) (by decide) (c_Ledger_copyX_3_0 h8 hI10 z12 z12Z z12E z12e.symm) (fun h15 p16 => ?_)
  obtain ⟨hI17, fh15, p16⟩ := p16
  have f18 : fr S_County_copyX_3_0 h h15 := fr_call f11 fh15 rfl
  have qG := p16
  refine V_aload_n 0 d_County_copyFrom_22 rfl rfl ?_
  refine V_getR fa_County_28 sk_51 rfl d_County_copyFrom_23 ?_
  refine V_aload_n 1 d_County_copyFrom_26 rfl rfl ?_
  refine V_getR fa_County_28 sk_0 rfl d_County_copyFrom_27 ?_
  obtain ⟨z19, z19Z, z19E, z19e⟩ : ∃ (y : Int32) (Y : Int), y.toInt = Y ∧ y = h15.1 12 4 := ⟨_, _, rfl, rfl⟩
  have g20 : 0 ≤ z19Z ∧ z19Z ≤ 8 := inv_at hI17 z19E z19e rfl
  refine N_callVV [.ref 12] [] cv_County_54 sk_63 rfl d_County_copyFrom_30 rfl (Nat.le_of_ble_eq_true rfl) (by decide) (by decide) (c_Sights_copyX_3_0 h15 hI17 z19 z19Z z19E z19e.symm) (fun h22 p23 => ?_)
  obtain ⟨hI24, fh22, p23⟩ := p23
  have f25 : fr S_County_copyX_3_0 h h22 := fr_call f18 fh22 rfl
  have qS := p23
  refine V_aload_n 0 d_County_copyFrom_33 rfl rfl ?_
  refine V_aload_n 1 d_County_copyFrom_34 rfl rfl ?_
  refine N_getK fa_County_41 sk_0 rfl d_County_copyFrom_35 (kn_call fh22 (kn_call fh15 (kn_call fh8 nK rfl) rfl) rfl) ?_
  refine N_putI fp_County_41 sk_51 rfl d_County_copyFrom_38 (fun h26 eh26 => ?_)
  have hI27 : Inv h26 := inv_full hI24 eh26 rfl
  have f28 : fr S_County_copyX_3_0 h h26 := fr_put f25 eh26 rfl
  refine V_aload_n 0 d_County_copyFrom_41 rfl rfl ?_
  refine V_aload_n 1 d_County_copyFrom_42 rfl rfl ?_
  refine N_getK fa_County_44 sk_0 rfl d_County_copyFrom_43 (kn_ne eh26 (kn_call fh22 (kn_call fh15 (kn_call fh8 mK rfl) rfl) rfl) (by decide)) ?_
  refine N_putI fp_County_44 sk_51 rfl d_County_copyFrom_46 (fun h29 eh29 => ?_)
  have hI30 : Inv h29 := inv_full hI27 eh29 rfl
  have f31 : fr S_County_copyX_3_0 h h29 := fr_put f28 eh29 rfl
  exact V_vret rfl d_County_copyFrom_49 ⟨rfl, ⟨hI30, f31, (cpy_of (a := 51) (b := 0) qL fh15 qG fh22 qS fh8 eh26 eh29 nK mK rfl rfl rfl rfl)⟩⟩
def S_Land_copyX_0_2 : List (Nat × Option Nat) := [(1, none), (2, none), (3, none), (4, none), (5, none), (6, none)]
abbrev q_Land_copyX_0_2 (h : Hp) (w : Int32) (wZ : Int) (g : Int32) (gZ : Int) (x : Int32) (xZ : Int) (y : Int32) (yZ : Int) : Option Value → Hp → Prop := pVd (fun h' => Inv h' ∧ fr S_Land_copyX_0_2 h h' ∧ (h'.1 1 0 = h.1 35 0 ∧ h'.1 1 1 = h.1 35 1 ∧ h'.1 1 2 = h.1 35 2 ∧ h'.1 1 3 = h.1 35 3 ∧ rcp h h' 2 36 16 ∧ rcp h h' 3 37 16 ∧ rcp h h' 4 38 16 ∧ rcp h h' 5 39 16 ∧ rcp h h' 6 40 16))
set_option maxRecDepth 100000 in
theorem c_Land_copyX_0_2 (h : Hp) (hI : Inv h) (w : Int32) (wZ : Int) (wE : w.toInt = wZ) (wK : h.1 35 0 = w) (g : Int32) (gZ : Int) (gE : g.toInt = gZ) (gK : h.1 35 1 = g) (x : Int32) (xZ : Int) (xE : x.toInt = xZ) (xK : h.1 35 2 = x) (y : Int32) (yZ : Int) (yE : y.toInt = yZ) (yK : h.1 35 3 = y) : Ct y_Land_copyFrom b_Land_copyFrom 2 none 1 60 [.ref 1, .ref 35] h (q_Land_copyX_0_2 h w wZ g gZ x xZ y yZ) := by
  refine ct_ow R_Land [some (.ref 1), some (.ref 35)] rfl (by decide) rfl (Nat.le_of_ble_eq_true rfl) ?_
  have f0 : fr S_Land_copyX_0_2 h h := fr_rf
  have g1 : 2 ≤ wZ ∧ wZ ≤ 4 := inv_at hI wE wK.symm rfl
  have g2 : 2 ≤ gZ ∧ gZ ≤ 4 := inv_at hI gE gK.symm rfl
  refine V_aload_n 0 d_Land_copyFrom_0 rfl rfl ?_
  refine V_aload_n 1 d_Land_copyFrom_1 rfl rfl ?_
  refine N_getK fa_Land_27 sk_35 rfl d_Land_copyFrom_2 wK ?_
  refine N_putI fp_Land_27 sk_1 rfl d_Land_copyFrom_5 (fun h3 eh3 => ?_)
  have hI4 : Inv h3 := inv_put (lo := 2) (hi := 4) hI eh3 rfl wE (by omega)
  have f5 : fr S_Land_copyX_0_2 h h3 := fr_put f0 eh3 rfl
  refine V_aload_n 0 d_Land_copyFrom_8 rfl rfl ?_
  refine V_aload_n 1 d_Land_copyFrom_9 rfl rfl ?_
  refine N_getK fa_Land_31 sk_35 rfl d_Land_copyFrom_10 (kn_ne eh3 gK (by decide)) ?_
  refine N_putI fp_Land_31 sk_1 rfl d_Land_copyFrom_13 (fun h6 eh6 => ?_)
  have hI7 : Inv h6 := inv_put (lo := 2) (hi := 4) hI4 eh6 rfl gE (by omega)
  have f8 : fr S_Land_copyX_0_2 h h6 := fr_put f5 eh6 rfl
  refine V_aload_n 0 d_Land_copyFrom_16 rfl rfl ?_
  refine V_aload_n 1 d_Land_copyFrom_17 rfl rfl ?_
  refine N_getK fa_Land_34 sk_35 rfl d_Land_copyFrom_18 (kn_ne eh6 (kn_ne eh3 xK (by decide)) (by decide)) ?_
  refine N_putI fp_Land_34 sk_1 rfl d_Land_copyFrom_21 (fun h9 eh9 => ?_)
  have hI10 : Inv h9 := inv_full hI7 eh9 rfl
  have f11 : fr S_Land_copyX_0_2 h h9 := fr_put f8 eh9 rfl
  refine V_aload_n 0 d_Land_copyFrom_24 rfl rfl ?_
  refine V_aload_n 1 d_Land_copyFrom_25 rfl rfl ?_
  refine N_getK fa_Land_37 sk_35 rfl d_Land_copyFrom_26 (kn_ne eh9 (kn_ne eh6 (kn_ne eh3 yK (by decide)) (by decide)) (by decide)) ?_
  refine N_putI fp_Land_37 sk_1 rfl d_Land_copyFrom_29 (fun h12 eh12 => ?_)
  have hI13 : Inv h12 := inv_full hI10 eh12 rfl
  have f14 : fr S_Land_copyX_0_2 h h12 := fr_put f11 eh12 rfl
  refine V_aload_n 1 d_Land_copyFrom_32 rfl rfl ?_
  refine V_getR fa_Land_9 sk_35 rfl d_Land_copyFrom_33 ?_
  refine V_iconst 0 d_Land_copyFrom_36 (by decide) ?_
  refine V_aload_n 0 d_Land_copyFrom_37 rfl rfl ?_
  refine V_getR fa_Land_9 sk_1 rfl d_Land_copyFrom_38 ?_
  refine V_iconst 0 d_Land_copyFrom_41 (by decide) ?_
  refine V_bipush 16 d_Land_copyFrom_42 (by decide) ?_
  refine N_acopy sk_36 sk_2 tc_0 tc_0 tc_16 (by omega) wa_Land_46 wA1 wA2 wA3 d_Land_copyFrom_44 (by decide) (Nat.le_of_ble_eq_true rfl) (fun h15 eh15 => ?_)
  have hI16 : Inv h15 := inv_cpy (n := 16) hI13 eh15 (fun _ => rfl)
  have f17 : fr S_Land_copyX_0_2 h h15 := fr_row f14 eh15 (fun _ => rfl)
  have C18 : rcp h h15 2 36 16 := rcp_now f14 (fun _ => rfl) eh15
  refine V_aload_n 1 d_Land_copyFrom_47 rfl rfl ?_
  refine V_getR fa_Land_15 sk_35 rfl d_Land_copyFrom_48 ?_
  refine V_iconst 0 d_Land_copyFrom_51 (by decide) ?_
  refine V_aload_n 0 d_Land_copyFrom_52 rfl rfl ?_
  refine V_getR fa_Land_15 sk_1 rfl d_Land_copyFrom_53 ?_
  refine V_iconst 0 d_Land_copyFrom_56 (by decide) ?_
  refine V_bipush 16 d_Land_copyFrom_57 (by decide) ?_
  refine N_acopy sk_37 sk_3 tc_0 tc_0 tc_16 (by omega) wa_Land_46 wA1 wA2 wA3 d_Land_copyFrom_59 (by decide) (Nat.le_of_ble_eq_true rfl) (fun h19 eh19 => ?_)
  have hI20 : Inv h19 := inv_cpy (n := 16) hI16 eh19 (fun _ => rfl)
  have f21 : fr S_Land_copyX_0_2 h h19 := fr_row f17 eh19 (fun _ => rfl)
  have C22 : rcp h h19 2 36 16 := rcp_row C18 eh19 (by decide)
  have C23 : rcp h h19 3 37 16 := rcp_now f17 (fun _ => rfl) eh19
  refine V_aload_n 1 d_Land_copyFrom_62 rfl rfl ?_
  refine V_getR fa_Land_18 sk_35 rfl d_Land_copyFrom_63 ?_
  refine V_iconst 0 d_Land_copyFrom_66 (by decide) ?_
  refine V_aload_n 0 d_Land_copyFrom_67 rfl rfl ?_
  refine V_getR fa_Land_18 sk_1 rfl d_Land_copyFrom_68 ?_
  refine V_iconst 0 d_Land_copyFrom_71 (by decide) ?_
  refine V_bipush 16 d_Land_copyFrom_72 (by decide) ?_
  refine N_acopy sk_38 sk_4 tc_0 tc_0 tc_16 (by omega) wa_Land_46 wA1 wA2 wA3 d_Land_copyFrom_74 (by decide) (Nat.le_of_ble_eq_true rfl) (fun h24 eh24 => ?_)
  have hI25 : Inv h24 := inv_cpy (n := 16) hI20 eh24 (fun _ => rfl)
  have f26 : fr S_Land_copyX_0_2 h h24 := fr_row f21 eh24 (fun _ => rfl)
  have C27 : rcp h h24 2 36 16 := rcp_row C22 eh24 (by decide)
  have C28 : rcp h h24 3 37 16 := rcp_row C23 eh24 (by decide)
  have C29 : rcp h h24 4 38 16 := rcp_now f21 (fun _ => rfl) eh24
  refine V_aload_n 1 d_Land_copyFrom_77 rfl rfl ?_
  refine V_getR fa_Land_21 sk_35 rfl d_Land_copyFrom_78 ?_
  refine V_iconst 0 d_Land_copyFrom_81 (by decide) ?_
  refine V_aload_n 0 d_Land_copyFrom_82 rfl rfl ?_
  refine V_getR fa_Land_21 sk_1 rfl d_Land_copyFrom_83 ?_
  refine V_iconst 0 d_Land_copyFrom_86 (by decide) ?_
  refine V_bipush 16 d_Land_copyFrom_87 (by decide) ?_
  refine N_acopy sk_39 sk_5 tc_0 tc_0 tc_16 (by omega) wa_Land_46 wA1 wA2 wA3 d_Land_copyFrom_89 (by decide) (Nat.le_of_ble_eq_true rfl) (fun h30 eh30 => ?_)
  have hI31 : Inv h30 := inv_cpy (n := 16) hI25 eh30 (fun _ => rfl)
  have f32 : fr S_Land_copyX_0_2 h h30 := fr_row f26 eh30 (fun _ => rfl)
  have C33 : rcp h h30 2 36 16 := rcp_row C27 eh30 (by decide)
  have C34 : rcp h h30 3 37 16 := rcp_row C28 eh30 (by decide)
  have C35 : rcp h h30 4 38 16 := rcp_row C29 eh30 (by decide)
  have C36 : rcp h h30 5 39 16 := rcp_now f26 (fun _ => rfl) eh30
  refine V_aload_n 1 d_Land_copyFrom_92 rfl rfl ?_
  refine V_getR fa_Land_24 sk_35 rfl d_Land_copyFrom_93 ?_
  refine V_iconst 0 d_Land_copyFrom_96 (by decide) ?_
  refine V_aload_n 0 d_Land_copyFrom_97 rfl rfl ?_
  refine V_getR fa_Land_24 sk_1 rfl d_Land_copyFrom_98 ?_
  refine V_iconst 0 d_Land_copyFrom_101 (by decide) ?_
  refine V_bipush 16 d_Land_copyFrom_102 (by decide) ?_
  refine N_acopy sk_40 sk_6 tc_0 tc_0 tc_16 (by omega) wa_Land_46 wA1 wA2 wA3 d_Land_copyFrom_104 (by decide) (Nat.le_of_ble_eq_true rfl) (fun h37 eh37 => ?_)
  have hI38 : Inv h37 := inv_cpy (n := 16) hI31 eh37 (fun _ => rfl)
  have f39 : fr S_Land_copyX_0_2 h h37 := fr_row f32 eh37 (fun _ => rfl)
  have C40 : rcp h h37 2 36 16 := rcp_row C33 eh37 (by decide)
  have C41 : rcp h h37 3 37 16 := rcp_row C34 eh37 (by decide)
  have C42 : rcp h h37 4 38 16 := rcp_row C35 eh37 (by decide)
  have C43 : rcp h h37 5 39 16 := rcp_row C36 eh37 (by decide)
  have C44 : rcp h h37 6 40 16 := rcp_now f32 (fun _ => rfl) eh37
  exact V_vret rfl d_Land_copyFrom_107 ⟨rfl, ⟨hI38, f39, ⟨((kn_row eh37 (kn_row eh30 (kn_row eh24 (kn_row eh19 (kn_row eh15 (kn_nei eh12 (kn_nei eh9 (kn_nei eh6 (kn_put eh3) (by decide)) (by decide)) (by decide)) (by decide)) (by decide)) (by decide)) (by decide)) (by decide)).trans wK.symm), ((kn_row eh37 (kn_row eh30 (kn_row eh24 (kn_row eh19 (kn_row eh15 (kn_nei eh12 (kn_nei eh9 (kn_put eh6) (by decide)) (by decide)) (by decide)) (by decide)) (by decide)) (by decide)) (by decide)).trans gK.symm), ((kn_row eh37 (kn_row eh30 (kn_row eh24 (kn_row eh19 (kn_row eh15 (kn_nei eh12 (kn_put eh9) (by decide)) (by decide)) (by decide)) (by decide)) (by decide)) (by decide)).trans xK.symm), ((kn_row eh37 (kn_row eh30 (kn_row eh24 (kn_row eh19 (kn_row eh15 (kn_put eh12) (by decide)) (by decide)) (by decide)) (by decide)) (by decide)).trans yK.symm), C40, C41, C42, C43, C44⟩⟩⟩
def S_Ledger_copyX_0_2 : List (Nat × Option Nat) := [(7, some 4), (8, none), (9, none), (10, none), (11, none)]
abbrev q_Ledger_copyX_0_2 (h : Hp) (t : Int32) (tZ : Int) : Option Value → Hp → Prop := pVd (fun h' => Inv h' ∧ fr S_Ledger_copyX_0_2 h h' ∧ (h'.1 7 4 = h.1 41 4 ∧ rcp h h' 8 42 4 ∧ rcp h h' 9 43 8 ∧ rcp h h' 10 44 8 ∧ rcp h h' 11 45 8))
set_option maxRecDepth 100000 in
theorem c_Ledger_copyX_0_2 (h : Hp) (hI : Inv h) (t : Int32) (tZ : Int) (tE : t.toInt = tZ) (tK : h.1 41 4 = t) : Ct y_Ledger_copyFrom b_Ledger_copyFrom 2 none 1 60 [.ref 7, .ref 41] h (q_Ledger_copyX_0_2 h t tZ) := by
  refine ct_ow R_Ledger [some (.ref 7), some (.ref 41)] rfl (by decide) rfl (Nat.le_of_ble_eq_true rfl) ?_
  have f0 : fr S_Ledger_copyX_0_2 h h := fr_rf
  have g1 : 0 ≤ tZ ∧ tZ ≤ 8 := inv_at hI tE tK.symm rfl
  refine V_aload_n 1 d_Ledger_copyFrom_0 rfl rfl ?_
  refine V_getR fa_Ledger_9 sk_41 rfl d_Ledger_copyFrom_1 ?_
  refine V_iconst 0 d_Ledger_copyFrom_4 (by decide) ?_
  refine V_aload_n 0 d_Ledger_copyFrom_5 rfl rfl ?_
  refine V_getR fa_Ledger_9 sk_7 rfl d_Ledger_copyFrom_6 ?_
  refine V_iconst 0 d_Ledger_copyFrom_9 (by decide) ?_
  refine V_iconst 4 d_Ledger_copyFrom_10 (by decide) ?_
  refine N_acopy sk_42 sk_8 tc_0 tc_0 tc_4 (by omega) wa_Ledger_34 wA1 wA2 wA3 d_Ledger_copyFrom_11 (by decide) (Nat.le_of_ble_eq_true rfl) (fun h2 eh2 => ?_)
  have hI3 : Inv h2 := inv_cpy (n := 4) hI eh2 (fun _ => rfl)
  have f4 : fr S_Ledger_copyX_0_2 h h2 := fr_row f0 eh2 (fun _ => rfl)
  have C5 : rcp h h2 8 42 4 := rcp_now f0 (fun _ => rfl) eh2
  refine V_aload_n 1 d_Ledger_copyFrom_14 rfl rfl ?_
  refine V_getR fa_Ledger_15 sk_41 rfl d_Ledger_copyFrom_15 ?_
  refine V_iconst 0 d_Ledger_copyFrom_18 (by decide) ?_
  refine V_aload_n 0 d_Ledger_copyFrom_19 rfl rfl ?_
  refine V_getR fa_Ledger_15 sk_7 rfl d_Ledger_copyFrom_20 ?_
  refine V_iconst 0 d_Ledger_copyFrom_23 (by decide) ?_
  refine V_bipush 8 d_Ledger_copyFrom_24 (by decide) ?_
  refine N_acopy sk_43 sk_9 tc_0 tc_0 tc_8 (by omega) wa_Ledger_34 wA1 wA2 wA3 d_Ledger_copyFrom_26 (by decide) (Nat.le_of_ble_eq_true rfl) (fun h6 eh6 => ?_)
  have hI7 : Inv h6 := inv_cpy (n := 8) hI3 eh6 (fun _ => rfl)
  have f8 : fr S_Ledger_copyX_0_2 h h6 := fr_row f4 eh6 (fun _ => rfl)
  have C9 : rcp h h6 8 42 4 := rcp_row C5 eh6 (by decide)
  have C10 : rcp h h6 9 43 8 := rcp_now f4 (fun _ => rfl) eh6
  refine V_aload_n 1 d_Ledger_copyFrom_29 rfl rfl ?_
  refine V_getR fa_Ledger_18 sk_41 rfl d_Ledger_copyFrom_30 ?_
  refine V_iconst 0 d_Ledger_copyFrom_33 (by decide) ?_
  refine V_aload_n 0 d_Ledger_copyFrom_34 rfl rfl ?_
  refine V_getR fa_Ledger_18 sk_7 rfl d_Ledger_copyFrom_35 ?_
  refine V_iconst 0 d_Ledger_copyFrom_38 (by decide) ?_
  refine V_bipush 8 d_Ledger_copyFrom_39 (by decide) ?_
  refine N_acopy sk_44 sk_10 tc_0 tc_0 tc_8 (by omega) wa_Ledger_34 wA1 wA2 wA3 d_Ledger_copyFrom_41 (by decide) (Nat.le_of_ble_eq_true rfl) (fun h11 eh11 => ?_)
  have hI12 : Inv h11 := inv_cpy (n := 8) hI7 eh11 (fun _ => rfl)
  have f13 : fr S_Ledger_copyX_0_2 h h11 := fr_row f8 eh11 (fun _ => rfl)
  have C14 : rcp h h11 8 42 4 := rcp_row C9 eh11 (by decide)
  have C15 : rcp h h11 9 43 8 := rcp_row C10 eh11 (by decide)
  have C16 : rcp h h11 10 44 8 := rcp_now f8 (fun _ => rfl) eh11
  refine V_aload_n 1 d_Ledger_copyFrom_44 rfl rfl ?_
  refine V_getR fa_Ledger_21 sk_41 rfl d_Ledger_copyFrom_45 ?_
  refine V_iconst 0 d_Ledger_copyFrom_48 (by decide) ?_
  refine V_aload_n 0 d_Ledger_copyFrom_49 rfl rfl ?_
  refine V_getR fa_Ledger_21 sk_7 rfl d_Ledger_copyFrom_50 ?_
  refine V_iconst 0 d_Ledger_copyFrom_53 (by decide) ?_
  refine V_bipush 8 d_Ledger_copyFrom_54 (by decide) ?_
  refine N_acopy sk_45 sk_11 tc_0 tc_0 tc_8 (by omega) wa_Ledger_34 wA1 wA2 wA3 d_Ledger_copyFrom_56 (by decide) (Nat.le_of_ble_eq_true rfl) (fun h17 eh17 => ?_)
  have hI18 : Inv h17 := inv_cpy (n := 8) hI12 eh17 (fun _ => rfl)
  have f19 : fr S_Ledger_copyX_0_2 h h17 := fr_row f13 eh17 (fun _ => rfl)
  have C20 : rcp h h17 8 42 4 := rcp_row C14 eh17 (by decide)
  have C21 : rcp h h17 9 43 8 := rcp_row C15 eh17 (by decide)
  have C22 : rcp h h17 10 44 8 := rcp_row C16 eh17 (by decide)
  have C23 : rcp h h17 11 45 8 := rcp_now f13 (fun _ => rfl) eh17
  refine V_aload_n 0 d_Ledger_copyFrom_59 rfl rfl ?_
  refine V_aload_n 1 d_Ledger_copyFrom_60 rfl rfl ?_
  refine N_getK fa_Ledger_30 sk_41 rfl d_Ledger_copyFrom_61 (kn_row eh17 (kn_row eh11 (kn_row eh6 (kn_row eh2 tK (by decide)) (by decide)) (by decide)) (by decide)) ?_
  refine N_putI fp_Ledger_30 sk_7 rfl d_Ledger_copyFrom_64 (fun h24 eh24 => ?_)
  have hI25 : Inv h24 := inv_put (lo := 0) (hi := 8) hI18 eh24 rfl tE (by omega)
  have f26 : fr S_Ledger_copyX_0_2 h h24 := fr_put f19 eh24 rfl
  have C27 : rcp h h24 8 42 4 := rcp_put C20 eh24 (by decide)
  have C28 : rcp h h24 9 43 8 := rcp_put C21 eh24 (by decide)
  have C29 : rcp h h24 10 44 8 := rcp_put C22 eh24 (by decide)
  have C30 : rcp h h24 11 45 8 := rcp_put C23 eh24 (by decide)
  exact V_vret rfl d_Ledger_copyFrom_67 ⟨rfl, ⟨hI25, f26, ⟨((kn_put eh24).trans tK.symm), C27, C28, C29, C30⟩⟩⟩
def S_Sights_copyX_0_2 : List (Nat × Option Nat) := [(12, some 4), (13, none), (14, none), (15, none), (16, none)]
abbrev q_Sights_copyX_0_2 (h : Hp) (t : Int32) (tZ : Int) : Option Value → Hp → Prop := pVd (fun h' => Inv h' ∧ fr S_Sights_copyX_0_2 h h' ∧ (h'.1 12 4 = h.1 46 4 ∧ rcp h h' 13 47 8 ∧ rcp h h' 14 48 8 ∧ rcp h h' 15 49 8 ∧ rcp h h' 16 50 8))
set_option maxRecDepth 100000 in
theorem c_Sights_copyX_0_2 (h : Hp) (hI : Inv h) (t : Int32) (tZ : Int) (tE : t.toInt = tZ) (tK : h.1 46 4 = t) : Ct y_Sights_copyFrom b_Sights_copyFrom 2 none 1 60 [.ref 12, .ref 46] h (q_Sights_copyX_0_2 h t tZ) := by
  refine ct_ow R_Sights [some (.ref 12), some (.ref 46)] rfl (by decide) rfl (Nat.le_of_ble_eq_true rfl) ?_
  have f0 : fr S_Sights_copyX_0_2 h h := fr_rf
  have g1 : 0 ≤ tZ ∧ tZ ≤ 8 := inv_at hI tE tK.symm rfl
  refine V_aload_n 1 d_Sights_copyFrom_0 rfl rfl ?_
  refine V_getR fa_Sights_9 sk_46 rfl d_Sights_copyFrom_1 ?_
  refine V_iconst 0 d_Sights_copyFrom_4 (by decide) ?_
  refine V_aload_n 0 d_Sights_copyFrom_5 rfl rfl ?_
  refine V_getR fa_Sights_9 sk_12 rfl d_Sights_copyFrom_6 ?_
  refine V_iconst 0 d_Sights_copyFrom_9 (by decide) ?_
  refine V_bipush 8 d_Sights_copyFrom_10 (by decide) ?_
  refine N_acopy sk_47 sk_13 tc_0 tc_0 tc_8 (by omega) wa_Sights_24 wA1 wA2 wA3 d_Sights_copyFrom_12 (by decide) (Nat.le_of_ble_eq_true rfl) (fun h2 eh2 => ?_)
  have hI3 : Inv h2 := inv_cpy (n := 8) hI eh2 (fun _ => rfl)
  have f4 : fr S_Sights_copyX_0_2 h h2 := fr_row f0 eh2 (fun _ => rfl)
  have C5 : rcp h h2 13 47 8 := rcp_now f0 (fun _ => rfl) eh2
  refine V_aload_n 1 d_Sights_copyFrom_15 rfl rfl ?_
  refine V_getR fa_Sights_15 sk_46 rfl d_Sights_copyFrom_16 ?_
  refine V_iconst 0 d_Sights_copyFrom_19 (by decide) ?_
  refine V_aload_n 0 d_Sights_copyFrom_20 rfl rfl ?_
  refine V_getR fa_Sights_15 sk_12 rfl d_Sights_copyFrom_21 ?_
  refine V_iconst 0 d_Sights_copyFrom_24 (by decide) ?_
  refine V_bipush 8 d_Sights_copyFrom_25 (by decide) ?_
  refine N_acopy sk_48 sk_14 tc_0 tc_0 tc_8 (by omega) wa_Sights_24 wA1 wA2 wA3 d_Sights_copyFrom_27 (by decide) (Nat.le_of_ble_eq_true rfl) (fun h6 eh6 => ?_)
  have hI7 : Inv h6 := inv_cpy (n := 8) hI3 eh6 (fun _ => rfl)
  have f8 : fr S_Sights_copyX_0_2 h h6 := fr_row f4 eh6 (fun _ => rfl)
  have C9 : rcp h h6 13 47 8 := rcp_row C5 eh6 (by decide)
  have C10 : rcp h h6 14 48 8 := rcp_now f4 (fun _ => rfl) eh6
  refine V_aload_n 1 d_Sights_copyFrom_30 rfl rfl ?_
  refine V_getR fa_Sights_18 sk_46 rfl d_Sights_copyFrom_31 ?_
  refine V_iconst 0 d_Sights_copyFrom_34 (by decide) ?_
  refine V_aload_n 0 d_Sights_copyFrom_35 rfl rfl ?_
  refine V_getR fa_Sights_18 sk_12 rfl d_Sights_copyFrom_36 ?_
  refine V_iconst 0 d_Sights_copyFrom_39 (by decide) ?_
  refine V_bipush 8 d_Sights_copyFrom_40 (by decide) ?_
  refine N_acopy sk_49 sk_15 tc_0 tc_0 tc_8 (by omega) wa_Sights_24 wA1 wA2 wA3 d_Sights_copyFrom_42 (by decide) (Nat.le_of_ble_eq_true rfl) (fun h11 eh11 => ?_)
  have hI12 : Inv h11 := inv_cpy (n := 8) hI7 eh11 (fun _ => rfl)
  have f13 : fr S_Sights_copyX_0_2 h h11 := fr_row f8 eh11 (fun _ => rfl)
  have C14 : rcp h h11 13 47 8 := rcp_row C9 eh11 (by decide)
  have C15 : rcp h h11 14 48 8 := rcp_row C10 eh11 (by decide)
  have C16 : rcp h h11 15 49 8 := rcp_now f8 (fun _ => rfl) eh11
  refine V_aload_n 1 d_Sights_copyFrom_45 rfl rfl ?_
  refine V_getR fa_Sights_21 sk_46 rfl d_Sights_copyFrom_46 ?_
  refine V_iconst 0 d_Sights_copyFrom_49 (by decide) ?_
  refine V_aload_n 0 d_Sights_copyFrom_50 rfl rfl ?_
  refine V_getR fa_Sights_21 sk_12 rfl d_Sights_copyFrom_51 ?_
  refine V_iconst 0 d_Sights_copyFrom_54 (by decide) ?_
  refine V_bipush 8 d_Sights_copyFrom_55 (by decide) ?_
  refine N_acopy sk_50 sk_16 tc_0 tc_0 tc_8 (by omega) wa_Sights_24 wA1 wA2 wA3 d_Sights_copyFrom_57 (by decide) (Nat.le_of_ble_eq_true rfl) (fun h17 eh17 => ?_)
  have hI18 : Inv h17 := inv_cpy (n := 8) hI12 eh17 (fun _ => rfl)
  have f19 : fr S_Sights_copyX_0_2 h h17 := fr_row f13 eh17 (fun _ => rfl)
  have C20 : rcp h h17 13 47 8 := rcp_row C14 eh17 (by decide)
  have C21 : rcp h h17 14 48 8 := rcp_row C15 eh17 (by decide)
  have C22 : rcp h h17 15 49 8 := rcp_row C16 eh17 (by decide)
  have C23 : rcp h h17 16 50 8 := rcp_now f13 (fun _ => rfl) eh17
  refine V_aload_n 0 d_Sights_copyFrom_60 rfl rfl ?_
  refine V_aload_n 1 d_Sights_copyFrom_61 rfl rfl ?_
  refine N_getK fa_Sights_30 sk_46 rfl d_Sights_copyFrom_62 (kn_row eh17 (kn_row eh11 (kn_row eh6 (kn_row eh2 tK (by decide)) (by decide)) (by decide)) (by decide)) ?_
  refine N_putI fp_Sights_30 sk_12 rfl d_Sights_copyFrom_65 (fun h24 eh24 => ?_)
  have hI25 : Inv h24 := inv_put (lo := 0) (hi := 8) hI18 eh24 rfl tE (by omega)
  have f26 : fr S_Sights_copyX_0_2 h h24 := fr_put f19 eh24 rfl
  have C27 : rcp h h24 13 47 8 := rcp_put C20 eh24 (by decide)
  have C28 : rcp h h24 14 48 8 := rcp_put C21 eh24 (by decide)
  have C29 : rcp h h24 15 49 8 := rcp_put C22 eh24 (by decide)
  have C30 : rcp h h24 16 50 8 := rcp_put C23 eh24 (by decide)
  exact V_vret rfl d_Sights_copyFrom_68 ⟨rfl, ⟨hI25, f26, ⟨((kn_put eh24).trans tK.symm), C27, C28, C29, C30⟩⟩⟩
def S_County_copyX_0_2 : List (Nat × Option Nat) := [(0, some 3), (0, some 4), (1, none), (2, none), (3, none), (4, none), (5, none), (6, none), (7, some 4), (8, none), (9, none), (10, none), (11, none), (12, some 4), (13, none), (14, none), (15, none), (16, none)]
abbrev q_County_copyX_0_2 (h : Hp) (n : Int32) (nZ : Int) (m : Int32) (mZ : Int) : Option Value → Hp → Prop := pVd (fun h' => Inv h' ∧ fr S_County_copyX_0_2 h h' ∧ (cpy h h' 0 34))
set_option maxRecDepth 100000 in
theorem c_County_copyX_0_2 (h : Hp) (hI : Inv h) (n : Int32) (nZ : Int) (nE : n.toInt = nZ) (nK : h.1 34 3 = n) (m : Int32) (mZ : Int) (mE : m.toInt = mZ) (mK : h.1 34 4 = m) : Ct y_County_copyFrom b_County_copyFrom 2 none 2 81 [.ref 0, .ref 34] h (q_County_copyX_0_2 h n nZ m mZ) := by
  refine ct_ow R_County [some (.ref 0), some (.ref 34)] rfl (by decide) rfl (Nat.le_of_ble_eq_true rfl) ?_
  have f0 : fr S_County_copyX_0_2 h h := fr_rf
  refine V_aload_n 0 d_County_copyFrom_0 rfl rfl ?_
  refine V_getR fa_County_12 sk_0 rfl d_County_copyFrom_1 ?_
  refine V_aload_n 1 d_County_copyFrom_4 rfl rfl ?_
  refine V_getR fa_County_12 sk_34 rfl d_County_copyFrom_5 ?_
  obtain ⟨z1, z1Z, z1E, z1e⟩ : ∃ (y : Int32) (Y : Int), y.toInt = Y ∧ y = h.1 35 0 := ⟨_, _, rfl, rfl⟩
  have g2 : 2 ≤ z1Z ∧ z1Z ≤ 4 := inv_at hI z1E z1e rfl
  obtain ⟨z3, z3Z, z3E, z3e⟩ : ∃ (y : Int32) (Y : Int), y.toInt = Y ∧ y = h.1 35 1 := ⟨_, _, rfl, rfl⟩
  have g4 : 2 ≤ z3Z ∧ z3Z ≤ 4 := inv_at hI z3E z3e rfl
  obtain ⟨z5, z5Z, z5E, z5e⟩ : ∃ (y : Int32) (Y : Int), y.toInt = Y ∧ y = h.1 35 2 := ⟨_, _, rfl, rfl⟩
  obtain ⟨z6, z6Z, z6E, z6e⟩ : ∃ (y : Int32) (Y : Int), y.toInt = Y ∧ y = h.1 35 3 := ⟨_, _, rfl, rfl⟩
  refine N_callVV [.ref 35] [] cv_County_47 sk_1 rfl d_County_copyFrom_8 rfl (Nat.le_of_ble_eq_true rfl) (by decide) (by decide) (c_Land_copyX_0_2 h hI z1 z1Z z1E z1e.symm z3 z3Z z3E z3e.symm z5 z5Z z5E z5e.symm z6 z6Z z6E z6e.symm) (fun h8 p9 => ?_)
  obtain ⟨hI10, fh8, p9⟩ := p9
  have f11 : fr S_County_copyX_0_2 h h8 := fr_call f0 fh8 rfl
  have qL := p9
  refine V_aload_n 0 d_County_copyFrom_11 rfl rfl ?_
  refine V_getR fa_County_21 sk_0 rfl d_County_copyFrom_12 ?_
  refine V_aload_n 1 d_County_copyFrom_15 rfl rfl ?_
  refine V_getR fa_County_21 sk_34 rfl d_County_copyFrom_16 ?_
  obtain ⟨z12, z12Z, z12E, z12e⟩ : ∃ (y : Int32) (Y : Int), y.toInt = Y ∧ y = h8.1 41 4 := ⟨_, _, rfl, rfl⟩
  have g13 : 0 ≤ z12Z ∧ z12Z ≤ 8 := inv_at hI10 z12E z12e rfl
  refine N_callVV [.ref 41] [] cv_County_51 sk_7 rfl d_County_copyFrom_19 rfl (Nat.le_of_ble_eq_true rfl) (by decide) (by decide) (c_Ledger_copyX_0_2 h8 hI10 z12 z12Z z12E z12e.symm) (fun h15 p16 => ?_)
  obtain ⟨hI17, fh15, p16⟩ := p16
  have f18 : fr S_County_copyX_0_2 h h15 := fr_call f11 fh15 rfl
  have qG := p16
  refine V_aload_n 0 d_County_copyFrom_22 rfl rfl ?_
  refine V_getR fa_County_28 sk_0 rfl d_County_copyFrom_23 ?_
  refine V_aload_n 1 d_County_copyFrom_26 rfl rfl ?_
  refine V_getR fa_County_28 sk_34 rfl d_County_copyFrom_27 ?_
  obtain ⟨z19, z19Z, z19E, z19e⟩ : ∃ (y : Int32) (Y : Int), y.toInt = Y ∧ y = h15.1 46 4 := ⟨_, _, rfl, rfl⟩
  have g20 : 0 ≤ z19Z ∧ z19Z ≤ 8 := inv_at hI17 z19E z19e rfl
  refine N_callVV [.ref 46] [] cv_County_54 sk_12 rfl d_County_copyFrom_30 rfl (Nat.le_of_ble_eq_true rfl) (by decide) (by decide) (c_Sights_copyX_0_2 h15 hI17 z19 z19Z z19E z19e.symm) (fun h22 p23 => ?_)
  obtain ⟨hI24, fh22, p23⟩ := p23
  have f25 : fr S_County_copyX_0_2 h h22 := fr_call f18 fh22 rfl
  have qS := p23
  refine V_aload_n 0 d_County_copyFrom_33 rfl rfl ?_
  refine V_aload_n 1 d_County_copyFrom_34 rfl rfl ?_
  refine N_getK fa_County_41 sk_34 rfl d_County_copyFrom_35 (kn_call fh22 (kn_call fh15 (kn_call fh8 nK rfl) rfl) rfl) ?_
  refine N_putI fp_County_41 sk_0 rfl d_County_copyFrom_38 (fun h26 eh26 => ?_)
  have hI27 : Inv h26 := inv_full hI24 eh26 rfl
  have f28 : fr S_County_copyX_0_2 h h26 := fr_put f25 eh26 rfl
  refine V_aload_n 0 d_County_copyFrom_41 rfl rfl ?_
  refine V_aload_n 1 d_County_copyFrom_42 rfl rfl ?_
  refine N_getK fa_County_44 sk_34 rfl d_County_copyFrom_43 (kn_ne eh26 (kn_call fh22 (kn_call fh15 (kn_call fh8 mK rfl) rfl) rfl) (by decide)) ?_
  refine N_putI fp_County_44 sk_0 rfl d_County_copyFrom_46 (fun h29 eh29 => ?_)
  have hI30 : Inv h29 := inv_full hI27 eh29 rfl
  have f31 : fr S_County_copyX_0_2 h h29 := fr_put f28 eh29 rfl
  exact V_vret rfl d_County_copyFrom_49 ⟨rfl, ⟨hI30, f31, (cpy_of (a := 0) (b := 34) qL fh15 qG fh22 qS fh8 eh26 eh29 nK mK rfl rfl rfl rfl)⟩⟩
def S_Land_copyX_0_3 : List (Nat × Option Nat) := [(1, none), (2, none), (3, none), (4, none), (5, none), (6, none)]
abbrev q_Land_copyX_0_3 (h : Hp) (w : Int32) (wZ : Int) (g : Int32) (gZ : Int) (x : Int32) (xZ : Int) (y : Int32) (yZ : Int) : Option Value → Hp → Prop := pVd (fun h' => Inv h' ∧ fr S_Land_copyX_0_3 h h' ∧ (h'.1 1 0 = h.1 52 0 ∧ h'.1 1 1 = h.1 52 1 ∧ h'.1 1 2 = h.1 52 2 ∧ h'.1 1 3 = h.1 52 3 ∧ rcp h h' 2 53 16 ∧ rcp h h' 3 54 16 ∧ rcp h h' 4 55 16 ∧ rcp h h' 5 56 16 ∧ rcp h h' 6 57 16))
set_option maxRecDepth 100000 in
theorem c_Land_copyX_0_3 (h : Hp) (hI : Inv h) (w : Int32) (wZ : Int) (wE : w.toInt = wZ) (wK : h.1 52 0 = w) (g : Int32) (gZ : Int) (gE : g.toInt = gZ) (gK : h.1 52 1 = g) (x : Int32) (xZ : Int) (xE : x.toInt = xZ) (xK : h.1 52 2 = x) (y : Int32) (yZ : Int) (yE : y.toInt = yZ) (yK : h.1 52 3 = y) : Ct y_Land_copyFrom b_Land_copyFrom 2 none 1 60 [.ref 1, .ref 52] h (q_Land_copyX_0_3 h w wZ g gZ x xZ y yZ) := by
  refine ct_ow R_Land [some (.ref 1), some (.ref 52)] rfl (by decide) rfl (Nat.le_of_ble_eq_true rfl) ?_
  have f0 : fr S_Land_copyX_0_3 h h := fr_rf
  have g1 : 2 ≤ wZ ∧ wZ ≤ 4 := inv_at hI wE wK.symm rfl
  have g2 : 2 ≤ gZ ∧ gZ ≤ 4 := inv_at hI gE gK.symm rfl
  refine V_aload_n 0 d_Land_copyFrom_0 rfl rfl ?_
  refine V_aload_n 1 d_Land_copyFrom_1 rfl rfl ?_
  refine N_getK fa_Land_27 sk_52 rfl d_Land_copyFrom_2 wK ?_
  refine N_putI fp_Land_27 sk_1 rfl d_Land_copyFrom_5 (fun h3 eh3 => ?_)
  have hI4 : Inv h3 := inv_put (lo := 2) (hi := 4) hI eh3 rfl wE (by omega)
  have f5 : fr S_Land_copyX_0_3 h h3 := fr_put f0 eh3 rfl
  refine V_aload_n 0 d_Land_copyFrom_8 rfl rfl ?_
  refine V_aload_n 1 d_Land_copyFrom_9 rfl rfl ?_
  refine N_getK fa_Land_31 sk_52 rfl d_Land_copyFrom_10 (kn_ne eh3 gK (by decide)) ?_
  refine N_putI fp_Land_31 sk_1 rfl d_Land_copyFrom_13 (fun h6 eh6 => ?_)
  have hI7 : Inv h6 := inv_put (lo := 2) (hi := 4) hI4 eh6 rfl gE (by omega)
  have f8 : fr S_Land_copyX_0_3 h h6 := fr_put f5 eh6 rfl
  refine V_aload_n 0 d_Land_copyFrom_16 rfl rfl ?_
  refine V_aload_n 1 d_Land_copyFrom_17 rfl rfl ?_
  refine N_getK fa_Land_34 sk_52 rfl d_Land_copyFrom_18 (kn_ne eh6 (kn_ne eh3 xK (by decide)) (by decide)) ?_
  refine N_putI fp_Land_34 sk_1 rfl d_Land_copyFrom_21 (fun h9 eh9 => ?_)
  have hI10 : Inv h9 := inv_full hI7 eh9 rfl
  have f11 : fr S_Land_copyX_0_3 h h9 := fr_put f8 eh9 rfl
  refine V_aload_n 0 d_Land_copyFrom_24 rfl rfl ?_
  refine V_aload_n 1 d_Land_copyFrom_25 rfl rfl ?_
  refine N_getK fa_Land_37 sk_52 rfl d_Land_copyFrom_26 (kn_ne eh9 (kn_ne eh6 (kn_ne eh3 yK (by decide)) (by decide)) (by decide)) ?_
  refine N_putI fp_Land_37 sk_1 rfl d_Land_copyFrom_29 (fun h12 eh12 => ?_)
  have hI13 : Inv h12 := inv_full hI10 eh12 rfl
  have f14 : fr S_Land_copyX_0_3 h h12 := fr_put f11 eh12 rfl
  refine V_aload_n 1 d_Land_copyFrom_32 rfl rfl ?_
  refine V_getR fa_Land_9 sk_52 rfl d_Land_copyFrom_33 ?_
  refine V_iconst 0 d_Land_copyFrom_36 (by decide) ?_
  refine V_aload_n 0 d_Land_copyFrom_37 rfl rfl ?_
  refine V_getR fa_Land_9 sk_1 rfl d_Land_copyFrom_38 ?_
  refine V_iconst 0 d_Land_copyFrom_41 (by decide) ?_
  refine V_bipush 16 d_Land_copyFrom_42 (by decide) ?_
  refine N_acopy sk_53 sk_2 tc_0 tc_0 tc_16 (by omega) wa_Land_46 wA1 wA2 wA3 d_Land_copyFrom_44 (by decide) (Nat.le_of_ble_eq_true rfl) (fun h15 eh15 => ?_)
  have hI16 : Inv h15 := inv_cpy (n := 16) hI13 eh15 (fun _ => rfl)
  have f17 : fr S_Land_copyX_0_3 h h15 := fr_row f14 eh15 (fun _ => rfl)
  have C18 : rcp h h15 2 53 16 := rcp_now f14 (fun _ => rfl) eh15
  refine V_aload_n 1 d_Land_copyFrom_47 rfl rfl ?_
  refine V_getR fa_Land_15 sk_52 rfl d_Land_copyFrom_48 ?_
  refine V_iconst 0 d_Land_copyFrom_51 (by decide) ?_
  refine V_aload_n 0 d_Land_copyFrom_52 rfl rfl ?_
  refine V_getR fa_Land_15 sk_1 rfl d_Land_copyFrom_53 ?_
  refine V_iconst 0 d_Land_copyFrom_56 (by decide) ?_
  refine V_bipush 16 d_Land_copyFrom_57 (by decide) ?_
  refine N_acopy sk_54 sk_3 tc_0 tc_0 tc_16 (by omega) wa_Land_46 wA1 wA2 wA3 d_Land_copyFrom_59 (by decide) (Nat.le_of_ble_eq_true rfl) (fun h19 eh19 => ?_)
  have hI20 : Inv h19 := inv_cpy (n := 16) hI16 eh19 (fun _ => rfl)
  have f21 : fr S_Land_copyX_0_3 h h19 := fr_row f17 eh19 (fun _ => rfl)
  have C22 : rcp h h19 2 53 16 := rcp_row C18 eh19 (by decide)
  have C23 : rcp h h19 3 54 16 := rcp_now f17 (fun _ => rfl) eh19
  refine V_aload_n 1 d_Land_copyFrom_62 rfl rfl ?_
  refine V_getR fa_Land_18 sk_52 rfl d_Land_copyFrom_63 ?_
  refine V_iconst 0 d_Land_copyFrom_66 (by decide) ?_
  refine V_aload_n 0 d_Land_copyFrom_67 rfl rfl ?_
  refine V_getR fa_Land_18 sk_1 rfl d_Land_copyFrom_68 ?_
  refine V_iconst 0 d_Land_copyFrom_71 (by decide) ?_
  refine V_bipush 16 d_Land_copyFrom_72 (by decide) ?_
  refine N_acopy sk_55 sk_4 tc_0 tc_0 tc_16 (by omega) wa_Land_46 wA1 wA2 wA3 d_Land_copyFrom_74 (by decide) (Nat.le_of_ble_eq_true rfl) (fun h24 eh24 => ?_)
  have hI25 : Inv h24 := inv_cpy (n := 16) hI20 eh24 (fun _ => rfl)
  have f26 : fr S_Land_copyX_0_3 h h24 := fr_row f21 eh24 (fun _ => rfl)
  have C27 : rcp h h24 2 53 16 := rcp_row C22 eh24 (by decide)
  have C28 : rcp h h24 3 54 16 := rcp_row C23 eh24 (by decide)
  have C29 : rcp h h24 4 55 16 := rcp_now f21 (fun _ => rfl) eh24
  refine V_aload_n 1 d_Land_copyFrom_77 rfl rfl ?_
  refine V_getR fa_Land_21 sk_52 rfl d_Land_copyFrom_78 ?_
  refine V_iconst 0 d_Land_copyFrom_81 (by decide) ?_
  refine V_aload_n 0 d_Land_copyFrom_82 rfl rfl ?_
  refine V_getR fa_Land_21 sk_1 rfl d_Land_copyFrom_83 ?_
  refine V_iconst 0 d_Land_copyFrom_86 (by decide) ?_
  refine V_bipush 16 d_Land_copyFrom_87 (by decide) ?_
  refine N_acopy sk_56 sk_5 tc_0 tc_0 tc_16 (by omega) wa_Land_46 wA1 wA2 wA3 d_Land_copyFrom_89 (by decide) (Nat.le_of_ble_eq_true rfl) (fun h30 eh30 => ?_)
  have hI31 : Inv h30 := inv_cpy (n := 16) hI25 eh30 (fun _ => rfl)
  have f32 : fr S_Land_copyX_0_3 h h30 := fr_row f26 eh30 (fun _ => rfl)
  have C33 : rcp h h30 2 53 16 := rcp_row C27 eh30 (by decide)
  have C34 : rcp h h30 3 54 16 := rcp_row C28 eh30 (by decide)
  have C35 : rcp h h30 4 55 16 := rcp_row C29 eh30 (by decide)
  have C36 : rcp h h30 5 56 16 := rcp_now f26 (fun _ => rfl) eh30
  refine V_aload_n 1 d_Land_copyFrom_92 rfl rfl ?_
  refine V_getR fa_Land_24 sk_52 rfl d_Land_copyFrom_93 ?_
  refine V_iconst 0 d_Land_copyFrom_96 (by decide) ?_
  refine V_aload_n 0 d_Land_copyFrom_97 rfl rfl ?_
  refine V_getR fa_Land_24 sk_1 rfl d_Land_copyFrom_98 ?_
  refine V_iconst 0 d_Land_copyFrom_101 (by decide) ?_
  refine V_bipush 16 d_Land_copyFrom_102 (by decide) ?_
  refine N_acopy sk_57 sk_6 tc_0 tc_0 tc_16 (by omega) wa_Land_46 wA1 wA2 wA3 d_Land_copyFrom_104 (by decide) (Nat.le_of_ble_eq_true rfl) (fun h37 eh37 => ?_)
  have hI38 : Inv h37 := inv_cpy (n := 16) hI31 eh37 (fun _ => rfl)
  have f39 : fr S_Land_copyX_0_3 h h37 := fr_row f32 eh37 (fun _ => rfl)
  have C40 : rcp h h37 2 53 16 := rcp_row C33 eh37 (by decide)
  have C41 : rcp h h37 3 54 16 := rcp_row C34 eh37 (by decide)
  have C42 : rcp h h37 4 55 16 := rcp_row C35 eh37 (by decide)
  have C43 : rcp h h37 5 56 16 := rcp_row C36 eh37 (by decide)
  have C44 : rcp h h37 6 57 16 := rcp_now f32 (fun _ => rfl) eh37
  exact V_vret rfl d_Land_copyFrom_107 ⟨rfl, ⟨hI38, f39, ⟨((kn_row eh37 (kn_row eh30 (kn_row eh24 (kn_row eh19 (kn_row eh15 (kn_nei eh12 (kn_nei eh9 (kn_nei eh6 (kn_put eh3) (by decide)) (by decide)) (by decide)) (by decide)) (by decide)) (by decide)) (by decide)) (by decide)).trans wK.symm), ((kn_row eh37 (kn_row eh30 (kn_row eh24 (kn_row eh19 (kn_row eh15 (kn_nei eh12 (kn_nei eh9 (kn_put eh6) (by decide)) (by decide)) (by decide)) (by decide)) (by decide)) (by decide)) (by decide)).trans gK.symm), ((kn_row eh37 (kn_row eh30 (kn_row eh24 (kn_row eh19 (kn_row eh15 (kn_nei eh12 (kn_put eh9) (by decide)) (by decide)) (by decide)) (by decide)) (by decide)) (by decide)).trans xK.symm), ((kn_row eh37 (kn_row eh30 (kn_row eh24 (kn_row eh19 (kn_row eh15 (kn_put eh12) (by decide)) (by decide)) (by decide)) (by decide)) (by decide)).trans yK.symm), C40, C41, C42, C43, C44⟩⟩⟩
def S_Ledger_copyX_0_3 : List (Nat × Option Nat) := [(7, some 4), (8, none), (9, none), (10, none), (11, none)]
abbrev q_Ledger_copyX_0_3 (h : Hp) (t : Int32) (tZ : Int) : Option Value → Hp → Prop := pVd (fun h' => Inv h' ∧ fr S_Ledger_copyX_0_3 h h' ∧ (h'.1 7 4 = h.1 58 4 ∧ rcp h h' 8 59 4 ∧ rcp h h' 9 60 8 ∧ rcp h h' 10 61 8 ∧ rcp h h' 11 62 8))
set_option maxRecDepth 100000 in
theorem c_Ledger_copyX_0_3 (h : Hp) (hI : Inv h) (t : Int32) (tZ : Int) (tE : t.toInt = tZ) (tK : h.1 58 4 = t) : Ct y_Ledger_copyFrom b_Ledger_copyFrom 2 none 1 60 [.ref 7, .ref 58] h (q_Ledger_copyX_0_3 h t tZ) := by
  refine ct_ow R_Ledger [some (.ref 7), some (.ref 58)] rfl (by decide) rfl (Nat.le_of_ble_eq_true rfl) ?_
  have f0 : fr S_Ledger_copyX_0_3 h h := fr_rf
  have g1 : 0 ≤ tZ ∧ tZ ≤ 8 := inv_at hI tE tK.symm rfl
  refine V_aload_n 1 d_Ledger_copyFrom_0 rfl rfl ?_
  refine V_getR fa_Ledger_9 sk_58 rfl d_Ledger_copyFrom_1 ?_
  refine V_iconst 0 d_Ledger_copyFrom_4 (by decide) ?_
  refine V_aload_n 0 d_Ledger_copyFrom_5 rfl rfl ?_
  refine V_getR fa_Ledger_9 sk_7 rfl d_Ledger_copyFrom_6 ?_
  refine V_iconst 0 d_Ledger_copyFrom_9 (by decide) ?_
  refine V_iconst 4 d_Ledger_copyFrom_10 (by decide) ?_
  refine N_acopy sk_59 sk_8 tc_0 tc_0 tc_4 (by omega) wa_Ledger_34 wA1 wA2 wA3 d_Ledger_copyFrom_11 (by decide) (Nat.le_of_ble_eq_true rfl) (fun h2 eh2 => ?_)
  have hI3 : Inv h2 := inv_cpy (n := 4) hI eh2 (fun _ => rfl)
  have f4 : fr S_Ledger_copyX_0_3 h h2 := fr_row f0 eh2 (fun _ => rfl)
  have C5 : rcp h h2 8 59 4 := rcp_now f0 (fun _ => rfl) eh2
  refine V_aload_n 1 d_Ledger_copyFrom_14 rfl rfl ?_
  refine V_getR fa_Ledger_15 sk_58 rfl d_Ledger_copyFrom_15 ?_
  refine V_iconst 0 d_Ledger_copyFrom_18 (by decide) ?_
  refine V_aload_n 0 d_Ledger_copyFrom_19 rfl rfl ?_
  refine V_getR fa_Ledger_15 sk_7 rfl d_Ledger_copyFrom_20 ?_
  refine V_iconst 0 d_Ledger_copyFrom_23 (by decide) ?_
  refine V_bipush 8 d_Ledger_copyFrom_24 (by decide) ?_
  refine N_acopy sk_60 sk_9 tc_0 tc_0 tc_8 (by omega) wa_Ledger_34 wA1 wA2 wA3 d_Ledger_copyFrom_26 (by decide) (Nat.le_of_ble_eq_true rfl) (fun h6 eh6 => ?_)
  have hI7 : Inv h6 := inv_cpy (n := 8) hI3 eh6 (fun _ => rfl)
  have f8 : fr S_Ledger_copyX_0_3 h h6 := fr_row f4 eh6 (fun _ => rfl)
  have C9 : rcp h h6 8 59 4 := rcp_row C5 eh6 (by decide)
  have C10 : rcp h h6 9 60 8 := rcp_now f4 (fun _ => rfl) eh6
  refine V_aload_n 1 d_Ledger_copyFrom_29 rfl rfl ?_
  refine V_getR fa_Ledger_18 sk_58 rfl d_Ledger_copyFrom_30 ?_
  refine V_iconst 0 d_Ledger_copyFrom_33 (by decide) ?_
  refine V_aload_n 0 d_Ledger_copyFrom_34 rfl rfl ?_
  refine V_getR fa_Ledger_18 sk_7 rfl d_Ledger_copyFrom_35 ?_
  refine V_iconst 0 d_Ledger_copyFrom_38 (by decide) ?_
  refine V_bipush 8 d_Ledger_copyFrom_39 (by decide) ?_
  refine N_acopy sk_61 sk_10 tc_0 tc_0 tc_8 (by omega) wa_Ledger_34 wA1 wA2 wA3 d_Ledger_copyFrom_41 (by decide) (Nat.le_of_ble_eq_true rfl) (fun h11 eh11 => ?_)
  have hI12 : Inv h11 := inv_cpy (n := 8) hI7 eh11 (fun _ => rfl)
  have f13 : fr S_Ledger_copyX_0_3 h h11 := fr_row f8 eh11 (fun _ => rfl)
  have C14 : rcp h h11 8 59 4 := rcp_row C9 eh11 (by decide)
  have C15 : rcp h h11 9 60 8 := rcp_row C10 eh11 (by decide)
  have C16 : rcp h h11 10 61 8 := rcp_now f8 (fun _ => rfl) eh11
  refine V_aload_n 1 d_Ledger_copyFrom_44 rfl rfl ?_
  refine V_getR fa_Ledger_21 sk_58 rfl d_Ledger_copyFrom_45 ?_
  refine V_iconst 0 d_Ledger_copyFrom_48 (by decide) ?_
  refine V_aload_n 0 d_Ledger_copyFrom_49 rfl rfl ?_
  refine V_getR fa_Ledger_21 sk_7 rfl d_Ledger_copyFrom_50 ?_
  refine V_iconst 0 d_Ledger_copyFrom_53 (by decide) ?_
  refine V_bipush 8 d_Ledger_copyFrom_54 (by decide) ?_
  refine N_acopy sk_62 sk_11 tc_0 tc_0 tc_8 (by omega) wa_Ledger_34 wA1 wA2 wA3 d_Ledger_copyFrom_56 (by decide) (Nat.le_of_ble_eq_true rfl) (fun h17 eh17 => ?_)
  have hI18 : Inv h17 := inv_cpy (n := 8) hI12 eh17 (fun _ => rfl)
  have f19 : fr S_Ledger_copyX_0_3 h h17 := fr_row f13 eh17 (fun _ => rfl)
  have C20 : rcp h h17 8 59 4 := rcp_row C14 eh17 (by decide)
  have C21 : rcp h h17 9 60 8 := rcp_row C15 eh17 (by decide)
  have C22 : rcp h h17 10 61 8 := rcp_row C16 eh17 (by decide)
  have C23 : rcp h h17 11 62 8 := rcp_now f13 (fun _ => rfl) eh17
  refine V_aload_n 0 d_Ledger_copyFrom_59 rfl rfl ?_
  refine V_aload_n 1 d_Ledger_copyFrom_60 rfl rfl ?_
  refine N_getK fa_Ledger_30 sk_58 rfl d_Ledger_copyFrom_61 (kn_row eh17 (kn_row eh11 (kn_row eh6 (kn_row eh2 tK (by decide)) (by decide)) (by decide)) (by decide)) ?_
  refine N_putI fp_Ledger_30 sk_7 rfl d_Ledger_copyFrom_64 (fun h24 eh24 => ?_)
  have hI25 : Inv h24 := inv_put (lo := 0) (hi := 8) hI18 eh24 rfl tE (by omega)
  have f26 : fr S_Ledger_copyX_0_3 h h24 := fr_put f19 eh24 rfl
  have C27 : rcp h h24 8 59 4 := rcp_put C20 eh24 (by decide)
  have C28 : rcp h h24 9 60 8 := rcp_put C21 eh24 (by decide)
  have C29 : rcp h h24 10 61 8 := rcp_put C22 eh24 (by decide)
  have C30 : rcp h h24 11 62 8 := rcp_put C23 eh24 (by decide)
  exact V_vret rfl d_Ledger_copyFrom_67 ⟨rfl, ⟨hI25, f26, ⟨((kn_put eh24).trans tK.symm), C27, C28, C29, C30⟩⟩⟩
def S_Sights_copyX_0_3 : List (Nat × Option Nat) := [(12, some 4), (13, none), (14, none), (15, none), (16, none)]
abbrev q_Sights_copyX_0_3 (h : Hp) (t : Int32) (tZ : Int) : Option Value → Hp → Prop := pVd (fun h' => Inv h' ∧ fr S_Sights_copyX_0_3 h h' ∧ (h'.1 12 4 = h.1 63 4 ∧ rcp h h' 13 64 8 ∧ rcp h h' 14 65 8 ∧ rcp h h' 15 66 8 ∧ rcp h h' 16 67 8))
set_option maxRecDepth 100000 in
theorem c_Sights_copyX_0_3 (h : Hp) (hI : Inv h) (t : Int32) (tZ : Int) (tE : t.toInt = tZ) (tK : h.1 63 4 = t) : Ct y_Sights_copyFrom b_Sights_copyFrom 2 none 1 60 [.ref 12, .ref 63] h (q_Sights_copyX_0_3 h t tZ) := by
  refine ct_ow R_Sights [some (.ref 12), some (.ref 63)] rfl (by decide) rfl (Nat.le_of_ble_eq_true rfl) ?_
  have f0 : fr S_Sights_copyX_0_3 h h := fr_rf
  have g1 : 0 ≤ tZ ∧ tZ ≤ 8 := inv_at hI tE tK.symm rfl
  refine V_aload_n 1 d_Sights_copyFrom_0 rfl rfl ?_
  refine V_getR fa_Sights_9 sk_63 rfl d_Sights_copyFrom_1 ?_
  refine V_iconst 0 d_Sights_copyFrom_4 (by decide) ?_
  refine V_aload_n 0 d_Sights_copyFrom_5 rfl rfl ?_
  refine V_getR fa_Sights_9 sk_12 rfl d_Sights_copyFrom_6 ?_
  refine V_iconst 0 d_Sights_copyFrom_9 (by decide) ?_
  refine V_bipush 8 d_Sights_copyFrom_10 (by decide) ?_
  refine N_acopy sk_64 sk_13 tc_0 tc_0 tc_8 (by omega) wa_Sights_24 wA1 wA2 wA3 d_Sights_copyFrom_12 (by decide) (Nat.le_of_ble_eq_true rfl) (fun h2 eh2 => ?_)
  have hI3 : Inv h2 := inv_cpy (n := 8) hI eh2 (fun _ => rfl)
  have f4 : fr S_Sights_copyX_0_3 h h2 := fr_row f0 eh2 (fun _ => rfl)
  have C5 : rcp h h2 13 64 8 := rcp_now f0 (fun _ => rfl) eh2
  refine V_aload_n 1 d_Sights_copyFrom_15 rfl rfl ?_
  refine V_getR fa_Sights_15 sk_63 rfl d_Sights_copyFrom_16 ?_
  refine V_iconst 0 d_Sights_copyFrom_19 (by decide) ?_
  refine V_aload_n 0 d_Sights_copyFrom_20 rfl rfl ?_
  refine V_getR fa_Sights_15 sk_12 rfl d_Sights_copyFrom_21 ?_
  refine V_iconst 0 d_Sights_copyFrom_24 (by decide) ?_
  refine V_bipush 8 d_Sights_copyFrom_25 (by decide) ?_
  refine N_acopy sk_65 sk_14 tc_0 tc_0 tc_8 (by omega) wa_Sights_24 wA1 wA2 wA3 d_Sights_copyFrom_27 (by decide) (Nat.le_of_ble_eq_true rfl) (fun h6 eh6 => ?_)
  have hI7 : Inv h6 := inv_cpy (n := 8) hI3 eh6 (fun _ => rfl)
  have f8 : fr S_Sights_copyX_0_3 h h6 := fr_row f4 eh6 (fun _ => rfl)
  have C9 : rcp h h6 13 64 8 := rcp_row C5 eh6 (by decide)
  have C10 : rcp h h6 14 65 8 := rcp_now f4 (fun _ => rfl) eh6
  refine V_aload_n 1 d_Sights_copyFrom_30 rfl rfl ?_
  refine V_getR fa_Sights_18 sk_63 rfl d_Sights_copyFrom_31 ?_
  refine V_iconst 0 d_Sights_copyFrom_34 (by decide) ?_
  refine V_aload_n 0 d_Sights_copyFrom_35 rfl rfl ?_
  refine V_getR fa_Sights_18 sk_12 rfl d_Sights_copyFrom_36 ?_
  refine V_iconst 0 d_Sights_copyFrom_39 (by decide) ?_
  refine V_bipush 8 d_Sights_copyFrom_40 (by decide) ?_
  refine N_acopy sk_66 sk_15 tc_0 tc_0 tc_8 (by omega) wa_Sights_24 wA1 wA2 wA3 d_Sights_copyFrom_42 (by decide) (Nat.le_of_ble_eq_true rfl) (fun h11 eh11 => ?_)
  have hI12 : Inv h11 := inv_cpy (n := 8) hI7 eh11 (fun _ => rfl)
  have f13 : fr S_Sights_copyX_0_3 h h11 := fr_row f8 eh11 (fun _ => rfl)
  have C14 : rcp h h11 13 64 8 := rcp_row C9 eh11 (by decide)
  have C15 : rcp h h11 14 65 8 := rcp_row C10 eh11 (by decide)
  have C16 : rcp h h11 15 66 8 := rcp_now f8 (fun _ => rfl) eh11
  refine V_aload_n 1 d_Sights_copyFrom_45 rfl rfl ?_
  refine V_getR fa_Sights_21 sk_63 rfl d_Sights_copyFrom_46 ?_
  refine V_iconst 0 d_Sights_copyFrom_49 (by decide) ?_
  refine V_aload_n 0 d_Sights_copyFrom_50 rfl rfl ?_
  refine V_getR fa_Sights_21 sk_12 rfl d_Sights_copyFrom_51 ?_
  refine V_iconst 0 d_Sights_copyFrom_54 (by decide) ?_
  refine V_bipush 8 d_Sights_copyFrom_55 (by decide) ?_
  refine N_acopy sk_67 sk_16 tc_0 tc_0 tc_8 (by omega) wa_Sights_24 wA1 wA2 wA3 d_Sights_copyFrom_57 (by decide) (Nat.le_of_ble_eq_true rfl) (fun h17 eh17 => ?_)
  have hI18 : Inv h17 := inv_cpy (n := 8) hI12 eh17 (fun _ => rfl)
  have f19 : fr S_Sights_copyX_0_3 h h17 := fr_row f13 eh17 (fun _ => rfl)
  have C20 : rcp h h17 13 64 8 := rcp_row C14 eh17 (by decide)
  have C21 : rcp h h17 14 65 8 := rcp_row C15 eh17 (by decide)
  have C22 : rcp h h17 15 66 8 := rcp_row C16 eh17 (by decide)
  have C23 : rcp h h17 16 67 8 := rcp_now f13 (fun _ => rfl) eh17
  refine V_aload_n 0 d_Sights_copyFrom_60 rfl rfl ?_
  refine V_aload_n 1 d_Sights_copyFrom_61 rfl rfl ?_
  refine N_getK fa_Sights_30 sk_63 rfl d_Sights_copyFrom_62 (kn_row eh17 (kn_row eh11 (kn_row eh6 (kn_row eh2 tK (by decide)) (by decide)) (by decide)) (by decide)) ?_
  refine N_putI fp_Sights_30 sk_12 rfl d_Sights_copyFrom_65 (fun h24 eh24 => ?_)
  have hI25 : Inv h24 := inv_put (lo := 0) (hi := 8) hI18 eh24 rfl tE (by omega)
  have f26 : fr S_Sights_copyX_0_3 h h24 := fr_put f19 eh24 rfl
  have C27 : rcp h h24 13 64 8 := rcp_put C20 eh24 (by decide)
  have C28 : rcp h h24 14 65 8 := rcp_put C21 eh24 (by decide)
  have C29 : rcp h h24 15 66 8 := rcp_put C22 eh24 (by decide)
  have C30 : rcp h h24 16 67 8 := rcp_put C23 eh24 (by decide)
  exact V_vret rfl d_Sights_copyFrom_68 ⟨rfl, ⟨hI25, f26, ⟨((kn_put eh24).trans tK.symm), C27, C28, C29, C30⟩⟩⟩
def S_County_copyX_0_3 : List (Nat × Option Nat) := [(0, some 3), (0, some 4), (1, none), (2, none), (3, none), (4, none), (5, none), (6, none), (7, some 4), (8, none), (9, none), (10, none), (11, none), (12, some 4), (13, none), (14, none), (15, none), (16, none)]
abbrev q_County_copyX_0_3 (h : Hp) (n : Int32) (nZ : Int) (m : Int32) (mZ : Int) : Option Value → Hp → Prop := pVd (fun h' => Inv h' ∧ fr S_County_copyX_0_3 h h' ∧ (cpy h h' 0 51))
set_option maxRecDepth 100000 in
theorem c_County_copyX_0_3 (h : Hp) (hI : Inv h) (n : Int32) (nZ : Int) (nE : n.toInt = nZ) (nK : h.1 51 3 = n) (m : Int32) (mZ : Int) (mE : m.toInt = mZ) (mK : h.1 51 4 = m) : Ct y_County_copyFrom b_County_copyFrom 2 none 2 81 [.ref 0, .ref 51] h (q_County_copyX_0_3 h n nZ m mZ) := by
  refine ct_ow R_County [some (.ref 0), some (.ref 51)] rfl (by decide) rfl (Nat.le_of_ble_eq_true rfl) ?_
  have f0 : fr S_County_copyX_0_3 h h := fr_rf
  refine V_aload_n 0 d_County_copyFrom_0 rfl rfl ?_
  refine V_getR fa_County_12 sk_0 rfl d_County_copyFrom_1 ?_
  refine V_aload_n 1 d_County_copyFrom_4 rfl rfl ?_
  refine V_getR fa_County_12 sk_51 rfl d_County_copyFrom_5 ?_
  obtain ⟨z1, z1Z, z1E, z1e⟩ : ∃ (y : Int32) (Y : Int), y.toInt = Y ∧ y = h.1 52 0 := ⟨_, _, rfl, rfl⟩
  have g2 : 2 ≤ z1Z ∧ z1Z ≤ 4 := inv_at hI z1E z1e rfl
  obtain ⟨z3, z3Z, z3E, z3e⟩ : ∃ (y : Int32) (Y : Int), y.toInt = Y ∧ y = h.1 52 1 := ⟨_, _, rfl, rfl⟩
  have g4 : 2 ≤ z3Z ∧ z3Z ≤ 4 := inv_at hI z3E z3e rfl
  obtain ⟨z5, z5Z, z5E, z5e⟩ : ∃ (y : Int32) (Y : Int), y.toInt = Y ∧ y = h.1 52 2 := ⟨_, _, rfl, rfl⟩
  obtain ⟨z6, z6Z, z6E, z6e⟩ : ∃ (y : Int32) (Y : Int), y.toInt = Y ∧ y = h.1 52 3 := ⟨_, _, rfl, rfl⟩
  refine N_callVV [.ref 52] [] cv_County_47 sk_1 rfl d_County_copyFrom_8 rfl (Nat.le_of_ble_eq_true rfl) (by decide) (by decide) (c_Land_copyX_0_3 h hI z1 z1Z z1E z1e.symm z3 z3Z z3E z3e.symm z5 z5Z z5E z5e.symm z6 z6Z z6E z6e.symm) (fun h8 p9 => ?_)
  obtain ⟨hI10, fh8, p9⟩ := p9
  have f11 : fr S_County_copyX_0_3 h h8 := fr_call f0 fh8 rfl
  have qL := p9
  refine V_aload_n 0 d_County_copyFrom_11 rfl rfl ?_
  refine V_getR fa_County_21 sk_0 rfl d_County_copyFrom_12 ?_
  refine V_aload_n 1 d_County_copyFrom_15 rfl rfl ?_
  refine V_getR fa_County_21 sk_51 rfl d_County_copyFrom_16 ?_
  obtain ⟨z12, z12Z, z12E, z12e⟩ : ∃ (y : Int32) (Y : Int), y.toInt = Y ∧ y = h8.1 58 4 := ⟨_, _, rfl, rfl⟩
  have g13 : 0 ≤ z12Z ∧ z12Z ≤ 8 := inv_at hI10 z12E z12e rfl
  refine N_callVV [.ref 58] [] cv_County_51 sk_7 rfl d_County_copyFrom_19 rfl (Nat.le_of_ble_eq_true rfl) (by decide) (by decide) (c_Ledger_copyX_0_3 h8 hI10 z12 z12Z z12E z12e.symm) (fun h15 p16 => ?_)
  obtain ⟨hI17, fh15, p16⟩ := p16
  have f18 : fr S_County_copyX_0_3 h h15 := fr_call f11 fh15 rfl
  have qG := p16
  refine V_aload_n 0 d_County_copyFrom_22 rfl rfl ?_
  refine V_getR fa_County_28 sk_0 rfl d_County_copyFrom_23 ?_
  refine V_aload_n 1 d_County_copyFrom_26 rfl rfl ?_
  refine V_getR fa_County_28 sk_51 rfl d_County_copyFrom_27 ?_
  obtain ⟨z19, z19Z, z19E, z19e⟩ : ∃ (y : Int32) (Y : Int), y.toInt = Y ∧ y = h15.1 63 4 := ⟨_, _, rfl, rfl⟩
  have g20 : 0 ≤ z19Z ∧ z19Z ≤ 8 := inv_at hI17 z19E z19e rfl
  refine N_callVV [.ref 63] [] cv_County_54 sk_12 rfl d_County_copyFrom_30 rfl (Nat.le_of_ble_eq_true rfl) (by decide) (by decide) (c_Sights_copyX_0_3 h15 hI17 z19 z19Z z19E z19e.symm) (fun h22 p23 => ?_)
  obtain ⟨hI24, fh22, p23⟩ := p23
  have f25 : fr S_County_copyX_0_3 h h22 := fr_call f18 fh22 rfl
  have qS := p23
  refine V_aload_n 0 d_County_copyFrom_33 rfl rfl ?_
  refine V_aload_n 1 d_County_copyFrom_34 rfl rfl ?_
  refine N_getK fa_County_41 sk_51 rfl d_County_copyFrom_35 (kn_call fh22 (kn_call fh15 (kn_call fh8 nK rfl) rfl) rfl) ?_
  refine N_putI fp_County_41 sk_0 rfl d_County_copyFrom_38 (fun h26 eh26 => ?_)
  have hI27 : Inv h26 := inv_full hI24 eh26 rfl
  have f28 : fr S_County_copyX_0_3 h h26 := fr_put f25 eh26 rfl
  refine V_aload_n 0 d_County_copyFrom_41 rfl rfl ?_
  refine V_aload_n 1 d_County_copyFrom_42 rfl rfl ?_
  refine N_getK fa_County_44 sk_51 rfl d_County_copyFrom_43 (kn_ne eh26 (kn_call fh22 (kn_call fh15 (kn_call fh8 mK rfl) rfl) rfl) (by decide)) ?_
  refine N_putI fp_County_44 sk_0 rfl d_County_copyFrom_46 (fun h29 eh29 => ?_)
  have hI30 : Inv h29 := inv_full hI27 eh29 rfl
  have f31 : fr S_County_copyX_0_3 h h29 := fr_put f28 eh29 rfl
  exact V_vret rfl d_County_copyFrom_49 ⟨rfl, ⟨hI30, f31, (cpy_of (a := 0) (b := 51) qL fh15 qG fh22 qS fh8 eh26 eh29 nK mK rfl rfl rfl rfl)⟩⟩
def S_Land_copyX_0_4 : List (Nat × Option Nat) := [(1, none), (2, none), (3, none), (4, none), (5, none), (6, none)]
abbrev q_Land_copyX_0_4 (h : Hp) (w : Int32) (wZ : Int) (g : Int32) (gZ : Int) (x : Int32) (xZ : Int) (y : Int32) (yZ : Int) : Option Value → Hp → Prop := pVd (fun h' => Inv h' ∧ fr S_Land_copyX_0_4 h h' ∧ (h'.1 1 0 = h.1 69 0 ∧ h'.1 1 1 = h.1 69 1 ∧ h'.1 1 2 = h.1 69 2 ∧ h'.1 1 3 = h.1 69 3 ∧ rcp h h' 2 70 16 ∧ rcp h h' 3 71 16 ∧ rcp h h' 4 72 16 ∧ rcp h h' 5 73 16 ∧ rcp h h' 6 74 16))
set_option maxRecDepth 100000 in
theorem c_Land_copyX_0_4 (h : Hp) (hI : Inv h) (w : Int32) (wZ : Int) (wE : w.toInt = wZ) (wK : h.1 69 0 = w) (g : Int32) (gZ : Int) (gE : g.toInt = gZ) (gK : h.1 69 1 = g) (x : Int32) (xZ : Int) (xE : x.toInt = xZ) (xK : h.1 69 2 = x) (y : Int32) (yZ : Int) (yE : y.toInt = yZ) (yK : h.1 69 3 = y) : Ct y_Land_copyFrom b_Land_copyFrom 2 none 1 60 [.ref 1, .ref 69] h (q_Land_copyX_0_4 h w wZ g gZ x xZ y yZ) := by
  refine ct_ow R_Land [some (.ref 1), some (.ref 69)] rfl (by decide) rfl (Nat.le_of_ble_eq_true rfl) ?_
  have f0 : fr S_Land_copyX_0_4 h h := fr_rf
  have g1 : 2 ≤ wZ ∧ wZ ≤ 4 := inv_at hI wE wK.symm rfl
  have g2 : 2 ≤ gZ ∧ gZ ≤ 4 := inv_at hI gE gK.symm rfl
  refine V_aload_n 0 d_Land_copyFrom_0 rfl rfl ?_
  refine V_aload_n 1 d_Land_copyFrom_1 rfl rfl ?_
  refine N_getK fa_Land_27 sk_69 rfl d_Land_copyFrom_2 wK ?_
  refine N_putI fp_Land_27 sk_1 rfl d_Land_copyFrom_5 (fun h3 eh3 => ?_)
  have hI4 : Inv h3 := inv_put (lo := 2) (hi := 4) hI eh3 rfl wE (by omega)
  have f5 : fr S_Land_copyX_0_4 h h3 := fr_put f0 eh3 rfl
  refine V_aload_n 0 d_Land_copyFrom_8 rfl rfl ?_
  refine V_aload_n 1 d_Land_copyFrom_9 rfl rfl ?_
  refine N_getK fa_Land_31 sk_69 rfl d_Land_copyFrom_10 (kn_ne eh3 gK (by decide)) ?_
  refine N_putI fp_Land_31 sk_1 rfl d_Land_copyFrom_13 (fun h6 eh6 => ?_)
  have hI7 : Inv h6 := inv_put (lo := 2) (hi := 4) hI4 eh6 rfl gE (by omega)
  have f8 : fr S_Land_copyX_0_4 h h6 := fr_put f5 eh6 rfl
  refine V_aload_n 0 d_Land_copyFrom_16 rfl rfl ?_
  refine V_aload_n 1 d_Land_copyFrom_17 rfl rfl ?_
  refine N_getK fa_Land_34 sk_69 rfl d_Land_copyFrom_18 (kn_ne eh6 (kn_ne eh3 xK (by decide)) (by decide)) ?_
  refine N_putI fp_Land_34 sk_1 rfl d_Land_copyFrom_21 (fun h9 eh9 => ?_)
  have hI10 : Inv h9 := inv_full hI7 eh9 rfl
  have f11 : fr S_Land_copyX_0_4 h h9 := fr_put f8 eh9 rfl
  refine V_aload_n 0 d_Land_copyFrom_24 rfl rfl ?_
  refine V_aload_n 1 d_Land_copyFrom_25 rfl rfl ?_
  refine N_getK fa_Land_37 sk_69 rfl d_Land_copyFrom_26 (kn_ne eh9 (kn_ne eh6 (kn_ne eh3 yK (by decide)) (by decide)) (by decide)) ?_
  refine N_putI fp_Land_37 sk_1 rfl d_Land_copyFrom_29 (fun h12 eh12 => ?_)
  have hI13 : Inv h12 := inv_full hI10 eh12 rfl
  have f14 : fr S_Land_copyX_0_4 h h12 := fr_put f11 eh12 rfl
  refine V_aload_n 1 d_Land_copyFrom_32 rfl rfl ?_
  refine V_getR fa_Land_9 sk_69 rfl d_Land_copyFrom_33 ?_
  refine V_iconst 0 d_Land_copyFrom_36 (by decide) ?_
  refine V_aload_n 0 d_Land_copyFrom_37 rfl rfl ?_
  refine V_getR fa_Land_9 sk_1 rfl d_Land_copyFrom_38 ?_
  refine V_iconst 0 d_Land_copyFrom_41 (by decide) ?_
  refine V_bipush 16 d_Land_copyFrom_42 (by decide) ?_
  refine N_acopy sk_70 sk_2 tc_0 tc_0 tc_16 (by omega) wa_Land_46 wA1 wA2 wA3 d_Land_copyFrom_44 (by decide) (Nat.le_of_ble_eq_true rfl) (fun h15 eh15 => ?_)
  have hI16 : Inv h15 := inv_cpy (n := 16) hI13 eh15 (fun _ => rfl)
  have f17 : fr S_Land_copyX_0_4 h h15 := fr_row f14 eh15 (fun _ => rfl)
  have C18 : rcp h h15 2 70 16 := rcp_now f14 (fun _ => rfl) eh15
  refine V_aload_n 1 d_Land_copyFrom_47 rfl rfl ?_
  refine V_getR fa_Land_15 sk_69 rfl d_Land_copyFrom_48 ?_
  refine V_iconst 0 d_Land_copyFrom_51 (by decide) ?_
  refine V_aload_n 0 d_Land_copyFrom_52 rfl rfl ?_
  refine V_getR fa_Land_15 sk_1 rfl d_Land_copyFrom_53 ?_
  refine V_iconst 0 d_Land_copyFrom_56 (by decide) ?_
  refine V_bipush 16 d_Land_copyFrom_57 (by decide) ?_
  refine N_acopy sk_71 sk_3 tc_0 tc_0 tc_16 (by omega) wa_Land_46 wA1 wA2 wA3 d_Land_copyFrom_59 (by decide) (Nat.le_of_ble_eq_true rfl) (fun h19 eh19 => ?_)
  have hI20 : Inv h19 := inv_cpy (n := 16) hI16 eh19 (fun _ => rfl)
  have f21 : fr S_Land_copyX_0_4 h h19 := fr_row f17 eh19 (fun _ => rfl)
  have C22 : rcp h h19 2 70 16 := rcp_row C18 eh19 (by decide)
  have C23 : rcp h h19 3 71 16 := rcp_now f17 (fun _ => rfl) eh19
  refine V_aload_n 1 d_Land_copyFrom_62 rfl rfl ?_
  refine V_getR fa_Land_18 sk_69 rfl d_Land_copyFrom_63 ?_
  refine V_iconst 0 d_Land_copyFrom_66 (by decide) ?_
  refine V_aload_n 0 d_Land_copyFrom_67 rfl rfl ?_
  refine V_getR fa_Land_18 sk_1 rfl d_Land_copyFrom_68 ?_
  refine V_iconst 0 d_Land_copyFrom_71 (by decide) ?_
  refine V_bipush 16 d_Land_copyFrom_72 (by decide) ?_
  refine N_acopy sk_72 sk_4 tc_0 tc_0 tc_16 (by omega) wa_Land_46 wA1 wA2 wA3 d_Land_copyFrom_74 (by decide) (Nat.le_of_ble_eq_true rfl) (fun h24 eh24 => ?_)
  have hI25 : Inv h24 := inv_cpy (n := 16) hI20 eh24 (fun _ => rfl)
  have f26 : fr S_Land_copyX_0_4 h h24 := fr_row f21 eh24 (fun _ => rfl)
  have C27 : rcp h h24 2 70 16 := rcp_row C22 eh24 (by decide)
  have C28 : rcp h h24 3 71 16 := rcp_row C23 eh24 (by decide)
  have C29 : rcp h h24 4 72 16 := rcp_now f21 (fun _ => rfl) eh24
  refine V_aload_n 1 d_Land_copyFrom_77 rfl rfl ?_
  refine V_getR fa_Land_21 sk_69 rfl d_Land_copyFrom_78 ?_
  refine V_iconst 0 d_Land_copyFrom_81 (by decide) ?_
  refine V_aload_n 0 d_Land_copyFrom_82 rfl rfl ?_
  refine V_getR fa_Land_21 sk_1 rfl d_Land_copyFrom_83 ?_
  refine V_iconst 0 d_Land_copyFrom_86 (by decide) ?_
  refine V_bipush 16 d_Land_copyFrom_87 (by decide) ?_
  refine N_acopy sk_73 sk_5 tc_0 tc_0 tc_16 (by omega) wa_Land_46 wA1 wA2 wA3 d_Land_copyFrom_89 (by decide) (Nat.le_of_ble_eq_true rfl) (fun h30 eh30 => ?_)
  have hI31 : Inv h30 := inv_cpy (n := 16) hI25 eh30 (fun _ => rfl)
  have f32 : fr S_Land_copyX_0_4 h h30 := fr_row f26 eh30 (fun _ => rfl)
  have C33 : rcp h h30 2 70 16 := rcp_row C27 eh30 (by decide)
  have C34 : rcp h h30 3 71 16 := rcp_row C28 eh30 (by decide)
  have C35 : rcp h h30 4 72 16 := rcp_row C29 eh30 (by decide)
  have C36 : rcp h h30 5 73 16 := rcp_now f26 (fun _ => rfl) eh30
  refine V_aload_n 1 d_Land_copyFrom_92 rfl rfl ?_
  refine V_getR fa_Land_24 sk_69 rfl d_Land_copyFrom_93 ?_
  refine V_iconst 0 d_Land_copyFrom_96 (by decide) ?_
  refine V_aload_n 0 d_Land_copyFrom_97 rfl rfl ?_
  refine V_getR fa_Land_24 sk_1 rfl d_Land_copyFrom_98 ?_
  refine V_iconst 0 d_Land_copyFrom_101 (by decide) ?_
  refine V_bipush 16 d_Land_copyFrom_102 (by decide) ?_
  refine N_acopy sk_74 sk_6 tc_0 tc_0 tc_16 (by omega) wa_Land_46 wA1 wA2 wA3 d_Land_copyFrom_104 (by decide) (Nat.le_of_ble_eq_true rfl) (fun h37 eh37 => ?_)
  have hI38 : Inv h37 := inv_cpy (n := 16) hI31 eh37 (fun _ => rfl)
  have f39 : fr S_Land_copyX_0_4 h h37 := fr_row f32 eh37 (fun _ => rfl)
  have C40 : rcp h h37 2 70 16 := rcp_row C33 eh37 (by decide)
  have C41 : rcp h h37 3 71 16 := rcp_row C34 eh37 (by decide)
  have C42 : rcp h h37 4 72 16 := rcp_row C35 eh37 (by decide)
  have C43 : rcp h h37 5 73 16 := rcp_row C36 eh37 (by decide)
  have C44 : rcp h h37 6 74 16 := rcp_now f32 (fun _ => rfl) eh37
  exact V_vret rfl d_Land_copyFrom_107 ⟨rfl, ⟨hI38, f39, ⟨((kn_row eh37 (kn_row eh30 (kn_row eh24 (kn_row eh19 (kn_row eh15 (kn_nei eh12 (kn_nei eh9 (kn_nei eh6 (kn_put eh3) (by decide)) (by decide)) (by decide)) (by decide)) (by decide)) (by decide)) (by decide)) (by decide)).trans wK.symm), ((kn_row eh37 (kn_row eh30 (kn_row eh24 (kn_row eh19 (kn_row eh15 (kn_nei eh12 (kn_nei eh9 (kn_put eh6) (by decide)) (by decide)) (by decide)) (by decide)) (by decide)) (by decide)) (by decide)).trans gK.symm), ((kn_row eh37 (kn_row eh30 (kn_row eh24 (kn_row eh19 (kn_row eh15 (kn_nei eh12 (kn_put eh9) (by decide)) (by decide)) (by decide)) (by decide)) (by decide)) (by decide)).trans xK.symm), ((kn_row eh37 (kn_row eh30 (kn_row eh24 (kn_row eh19 (kn_row eh15 (kn_put eh12) (by decide)) (by decide)) (by decide)) (by decide)) (by decide)).trans yK.symm), C40, C41, C42, C43, C44⟩⟩⟩
def S_Ledger_copyX_0_4 : List (Nat × Option Nat) := [(7, some 4), (8, none), (9, none), (10, none), (11, none)]
abbrev q_Ledger_copyX_0_4 (h : Hp) (t : Int32) (tZ : Int) : Option Value → Hp → Prop := pVd (fun h' => Inv h' ∧ fr S_Ledger_copyX_0_4 h h' ∧ (h'.1 7 4 = h.1 75 4 ∧ rcp h h' 8 76 4 ∧ rcp h h' 9 77 8 ∧ rcp h h' 10 78 8 ∧ rcp h h' 11 79 8))
set_option maxRecDepth 100000 in
theorem c_Ledger_copyX_0_4 (h : Hp) (hI : Inv h) (t : Int32) (tZ : Int) (tE : t.toInt = tZ) (tK : h.1 75 4 = t) : Ct y_Ledger_copyFrom b_Ledger_copyFrom 2 none 1 60 [.ref 7, .ref 75] h (q_Ledger_copyX_0_4 h t tZ) := by
  refine ct_ow R_Ledger [some (.ref 7), some (.ref 75)] rfl (by decide) rfl (Nat.le_of_ble_eq_true rfl) ?_
  have f0 : fr S_Ledger_copyX_0_4 h h := fr_rf
  have g1 : 0 ≤ tZ ∧ tZ ≤ 8 := inv_at hI tE tK.symm rfl
  refine V_aload_n 1 d_Ledger_copyFrom_0 rfl rfl ?_
  refine V_getR fa_Ledger_9 sk_75 rfl d_Ledger_copyFrom_1 ?_
  refine V_iconst 0 d_Ledger_copyFrom_4 (by decide) ?_
  refine V_aload_n 0 d_Ledger_copyFrom_5 rfl rfl ?_
  refine V_getR fa_Ledger_9 sk_7 rfl d_Ledger_copyFrom_6 ?_
  refine V_iconst 0 d_Ledger_copyFrom_9 (by decide) ?_
  refine V_iconst 4 d_Ledger_copyFrom_10 (by decide) ?_
  refine N_acopy sk_76 sk_8 tc_0 tc_0 tc_4 (by omega) wa_Ledger_34 wA1 wA2 wA3 d_Ledger_copyFrom_11 (by decide) (Nat.le_of_ble_eq_true rfl) (fun h2 eh2 => ?_)
  have hI3 : Inv h2 := inv_cpy (n := 4) hI eh2 (fun _ => rfl)
  have f4 : fr S_Ledger_copyX_0_4 h h2 := fr_row f0 eh2 (fun _ => rfl)
  have C5 : rcp h h2 8 76 4 := rcp_now f0 (fun _ => rfl) eh2
  refine V_aload_n 1 d_Ledger_copyFrom_14 rfl rfl ?_
  refine V_getR fa_Ledger_15 sk_75 rfl d_Ledger_copyFrom_15 ?_
  refine V_iconst 0 d_Ledger_copyFrom_18 (by decide) ?_
  refine V_aload_n 0 d_Ledger_copyFrom_19 rfl rfl ?_
  refine V_getR fa_Ledger_15 sk_7 rfl d_Ledger_copyFrom_20 ?_
  refine V_iconst 0 d_Ledger_copyFrom_23 (by decide) ?_
  refine V_bipush 8 d_Ledger_copyFrom_24 (by decide) ?_
  refine N_acopy sk_77 sk_9 tc_0 tc_0 tc_8 (by omega) wa_Ledger_34 wA1 wA2 wA3 d_Ledger_copyFrom_26 (by decide) (Nat.le_of_ble_eq_true rfl) (fun h6 eh6 => ?_)
  have hI7 : Inv h6 := inv_cpy (n := 8) hI3 eh6 (fun _ => rfl)
  have f8 : fr S_Ledger_copyX_0_4 h h6 := fr_row f4 eh6 (fun _ => rfl)
  have C9 : rcp h h6 8 76 4 := rcp_row C5 eh6 (by decide)
  have C10 : rcp h h6 9 77 8 := rcp_now f4 (fun _ => rfl) eh6
  refine V_aload_n 1 d_Ledger_copyFrom_29 rfl rfl ?_
  refine V_getR fa_Ledger_18 sk_75 rfl d_Ledger_copyFrom_30 ?_
  refine V_iconst 0 d_Ledger_copyFrom_33 (by decide) ?_
  refine V_aload_n 0 d_Ledger_copyFrom_34 rfl rfl ?_
  refine V_getR fa_Ledger_18 sk_7 rfl d_Ledger_copyFrom_35 ?_
  refine V_iconst 0 d_Ledger_copyFrom_38 (by decide) ?_
  refine V_bipush 8 d_Ledger_copyFrom_39 (by decide) ?_
  refine N_acopy sk_78 sk_10 tc_0 tc_0 tc_8 (by omega) wa_Ledger_34 wA1 wA2 wA3 d_Ledger_copyFrom_41 (by decide) (Nat.le_of_ble_eq_true rfl) (fun h11 eh11 => ?_)
  have hI12 : Inv h11 := inv_cpy (n := 8) hI7 eh11 (fun _ => rfl)
  have f13 : fr S_Ledger_copyX_0_4 h h11 := fr_row f8 eh11 (fun _ => rfl)
  have C14 : rcp h h11 8 76 4 := rcp_row C9 eh11 (by decide)
  have C15 : rcp h h11 9 77 8 := rcp_row C10 eh11 (by decide)
  have C16 : rcp h h11 10 78 8 := rcp_now f8 (fun _ => rfl) eh11
  refine V_aload_n 1 d_Ledger_copyFrom_44 rfl rfl ?_
  refine V_getR fa_Ledger_21 sk_75 rfl d_Ledger_copyFrom_45 ?_
  refine V_iconst 0 d_Ledger_copyFrom_48 (by decide) ?_
  refine V_aload_n 0 d_Ledger_copyFrom_49 rfl rfl ?_
  refine V_getR fa_Ledger_21 sk_7 rfl d_Ledger_copyFrom_50 ?_
  refine V_iconst 0 d_Ledger_copyFrom_53 (by decide) ?_
  refine V_bipush 8 d_Ledger_copyFrom_54 (by decide) ?_
  refine N_acopy sk_79 sk_11 tc_0 tc_0 tc_8 (by omega) wa_Ledger_34 wA1 wA2 wA3 d_Ledger_copyFrom_56 (by decide) (Nat.le_of_ble_eq_true rfl) (fun h17 eh17 => ?_)
  have hI18 : Inv h17 := inv_cpy (n := 8) hI12 eh17 (fun _ => rfl)
  have f19 : fr S_Ledger_copyX_0_4 h h17 := fr_row f13 eh17 (fun _ => rfl)
  have C20 : rcp h h17 8 76 4 := rcp_row C14 eh17 (by decide)
  have C21 : rcp h h17 9 77 8 := rcp_row C15 eh17 (by decide)
  have C22 : rcp h h17 10 78 8 := rcp_row C16 eh17 (by decide)
  have C23 : rcp h h17 11 79 8 := rcp_now f13 (fun _ => rfl) eh17
  refine V_aload_n 0 d_Ledger_copyFrom_59 rfl rfl ?_
  refine V_aload_n 1 d_Ledger_copyFrom_60 rfl rfl ?_
  refine N_getK fa_Ledger_30 sk_75 rfl d_Ledger_copyFrom_61 (kn_row eh17 (kn_row eh11 (kn_row eh6 (kn_row eh2 tK (by decide)) (by decide)) (by decide)) (by decide)) ?_
  refine N_putI fp_Ledger_30 sk_7 rfl d_Ledger_copyFrom_64 (fun h24 eh24 => ?_)
  have hI25 : Inv h24 := inv_put (lo := 0) (hi := 8) hI18 eh24 rfl tE (by omega)
  have f26 : fr S_Ledger_copyX_0_4 h h24 := fr_put f19 eh24 rfl
  have C27 : rcp h h24 8 76 4 := rcp_put C20 eh24 (by decide)
  have C28 : rcp h h24 9 77 8 := rcp_put C21 eh24 (by decide)
  have C29 : rcp h h24 10 78 8 := rcp_put C22 eh24 (by decide)
  have C30 : rcp h h24 11 79 8 := rcp_put C23 eh24 (by decide)
  exact V_vret rfl d_Ledger_copyFrom_67 ⟨rfl, ⟨hI25, f26, ⟨((kn_put eh24).trans tK.symm), C27, C28, C29, C30⟩⟩⟩
def S_Sights_copyX_0_4 : List (Nat × Option Nat) := [(12, some 4), (13, none), (14, none), (15, none), (16, none)]
abbrev q_Sights_copyX_0_4 (h : Hp) (t : Int32) (tZ : Int) : Option Value → Hp → Prop := pVd (fun h' => Inv h' ∧ fr S_Sights_copyX_0_4 h h' ∧ (h'.1 12 4 = h.1 80 4 ∧ rcp h h' 13 81 8 ∧ rcp h h' 14 82 8 ∧ rcp h h' 15 83 8 ∧ rcp h h' 16 84 8))
set_option maxRecDepth 100000 in
theorem c_Sights_copyX_0_4 (h : Hp) (hI : Inv h) (t : Int32) (tZ : Int) (tE : t.toInt = tZ) (tK : h.1 80 4 = t) : Ct y_Sights_copyFrom b_Sights_copyFrom 2 none 1 60 [.ref 12, .ref 80] h (q_Sights_copyX_0_4 h t tZ) := by
  refine ct_ow R_Sights [some (.ref 12), some (.ref 80)] rfl (by decide) rfl (Nat.le_of_ble_eq_true rfl) ?_
  have f0 : fr S_Sights_copyX_0_4 h h := fr_rf
  have g1 : 0 ≤ tZ ∧ tZ ≤ 8 := inv_at hI tE tK.symm rfl
  refine V_aload_n 1 d_Sights_copyFrom_0 rfl rfl ?_
  refine V_getR fa_Sights_9 sk_80 rfl d_Sights_copyFrom_1 ?_
  refine V_iconst 0 d_Sights_copyFrom_4 (by decide) ?_
  refine V_aload_n 0 d_Sights_copyFrom_5 rfl rfl ?_
  refine V_getR fa_Sights_9 sk_12 rfl d_Sights_copyFrom_6 ?_
  refine V_iconst 0 d_Sights_copyFrom_9 (by decide) ?_
  refine V_bipush 8 d_Sights_copyFrom_10 (by decide) ?_
  refine N_acopy sk_81 sk_13 tc_0 tc_0 tc_8 (by omega) wa_Sights_24 wA1 wA2 wA3 d_Sights_copyFrom_12 (by decide) (Nat.le_of_ble_eq_true rfl) (fun h2 eh2 => ?_)
  have hI3 : Inv h2 := inv_cpy (n := 8) hI eh2 (fun _ => rfl)
  have f4 : fr S_Sights_copyX_0_4 h h2 := fr_row f0 eh2 (fun _ => rfl)
  have C5 : rcp h h2 13 81 8 := rcp_now f0 (fun _ => rfl) eh2
  refine V_aload_n 1 d_Sights_copyFrom_15 rfl rfl ?_
  refine V_getR fa_Sights_15 sk_80 rfl d_Sights_copyFrom_16 ?_
  refine V_iconst 0 d_Sights_copyFrom_19 (by decide) ?_
  refine V_aload_n 0 d_Sights_copyFrom_20 rfl rfl ?_
  refine V_getR fa_Sights_15 sk_12 rfl d_Sights_copyFrom_21 ?_
  refine V_iconst 0 d_Sights_copyFrom_24 (by decide) ?_
  refine V_bipush 8 d_Sights_copyFrom_25 (by decide) ?_
  refine N_acopy sk_82 sk_14 tc_0 tc_0 tc_8 (by omega) wa_Sights_24 wA1 wA2 wA3 d_Sights_copyFrom_27 (by decide) (Nat.le_of_ble_eq_true rfl) (fun h6 eh6 => ?_)
  have hI7 : Inv h6 := inv_cpy (n := 8) hI3 eh6 (fun _ => rfl)
  have f8 : fr S_Sights_copyX_0_4 h h6 := fr_row f4 eh6 (fun _ => rfl)
  have C9 : rcp h h6 13 81 8 := rcp_row C5 eh6 (by decide)
  have C10 : rcp h h6 14 82 8 := rcp_now f4 (fun _ => rfl) eh6
  refine V_aload_n 1 d_Sights_copyFrom_30 rfl rfl ?_
  refine V_getR fa_Sights_18 sk_80 rfl d_Sights_copyFrom_31 ?_
  refine V_iconst 0 d_Sights_copyFrom_34 (by decide) ?_
  refine V_aload_n 0 d_Sights_copyFrom_35 rfl rfl ?_
  refine V_getR fa_Sights_18 sk_12 rfl d_Sights_copyFrom_36 ?_
  refine V_iconst 0 d_Sights_copyFrom_39 (by decide) ?_
  refine V_bipush 8 d_Sights_copyFrom_40 (by decide) ?_
  refine N_acopy sk_83 sk_15 tc_0 tc_0 tc_8 (by omega) wa_Sights_24 wA1 wA2 wA3 d_Sights_copyFrom_42 (by decide) (Nat.le_of_ble_eq_true rfl) (fun h11 eh11 => ?_)
  have hI12 : Inv h11 := inv_cpy (n := 8) hI7 eh11 (fun _ => rfl)
  have f13 : fr S_Sights_copyX_0_4 h h11 := fr_row f8 eh11 (fun _ => rfl)
  have C14 : rcp h h11 13 81 8 := rcp_row C9 eh11 (by decide)
  have C15 : rcp h h11 14 82 8 := rcp_row C10 eh11 (by decide)
  have C16 : rcp h h11 15 83 8 := rcp_now f8 (fun _ => rfl) eh11
  refine V_aload_n 1 d_Sights_copyFrom_45 rfl rfl ?_
  refine V_getR fa_Sights_21 sk_80 rfl d_Sights_copyFrom_46 ?_
  refine V_iconst 0 d_Sights_copyFrom_49 (by decide) ?_
  refine V_aload_n 0 d_Sights_copyFrom_50 rfl rfl ?_
  refine V_getR fa_Sights_21 sk_12 rfl d_Sights_copyFrom_51 ?_
  refine V_iconst 0 d_Sights_copyFrom_54 (by decide) ?_
  refine V_bipush 8 d_Sights_copyFrom_55 (by decide) ?_
  refine N_acopy sk_84 sk_16 tc_0 tc_0 tc_8 (by omega) wa_Sights_24 wA1 wA2 wA3 d_Sights_copyFrom_57 (by decide) (Nat.le_of_ble_eq_true rfl) (fun h17 eh17 => ?_)
  have hI18 : Inv h17 := inv_cpy (n := 8) hI12 eh17 (fun _ => rfl)
  have f19 : fr S_Sights_copyX_0_4 h h17 := fr_row f13 eh17 (fun _ => rfl)
  have C20 : rcp h h17 13 81 8 := rcp_row C14 eh17 (by decide)
  have C21 : rcp h h17 14 82 8 := rcp_row C15 eh17 (by decide)
  have C22 : rcp h h17 15 83 8 := rcp_row C16 eh17 (by decide)
  have C23 : rcp h h17 16 84 8 := rcp_now f13 (fun _ => rfl) eh17
  refine V_aload_n 0 d_Sights_copyFrom_60 rfl rfl ?_
  refine V_aload_n 1 d_Sights_copyFrom_61 rfl rfl ?_
  refine N_getK fa_Sights_30 sk_80 rfl d_Sights_copyFrom_62 (kn_row eh17 (kn_row eh11 (kn_row eh6 (kn_row eh2 tK (by decide)) (by decide)) (by decide)) (by decide)) ?_
  refine N_putI fp_Sights_30 sk_12 rfl d_Sights_copyFrom_65 (fun h24 eh24 => ?_)
  have hI25 : Inv h24 := inv_put (lo := 0) (hi := 8) hI18 eh24 rfl tE (by omega)
  have f26 : fr S_Sights_copyX_0_4 h h24 := fr_put f19 eh24 rfl
  have C27 : rcp h h24 13 81 8 := rcp_put C20 eh24 (by decide)
  have C28 : rcp h h24 14 82 8 := rcp_put C21 eh24 (by decide)
  have C29 : rcp h h24 15 83 8 := rcp_put C22 eh24 (by decide)
  have C30 : rcp h h24 16 84 8 := rcp_put C23 eh24 (by decide)
  exact V_vret rfl d_Sights_copyFrom_68 ⟨rfl, ⟨hI25, f26, ⟨((kn_put eh24).trans tK.symm), C27, C28, C29, C30⟩⟩⟩
def S_County_copyX_0_4 : List (Nat × Option Nat) := [(0, some 3), (0, some 4), (1, none), (2, none), (3, none), (4, none), (5, none), (6, none), (7, some 4), (8, none), (9, none), (10, none), (11, none), (12, some 4), (13, none), (14, none), (15, none), (16, none)]
abbrev q_County_copyX_0_4 (h : Hp) (n : Int32) (nZ : Int) (m : Int32) (mZ : Int) : Option Value → Hp → Prop := pVd (fun h' => Inv h' ∧ fr S_County_copyX_0_4 h h' ∧ (cpy h h' 0 68))
set_option maxRecDepth 100000 in
theorem c_County_copyX_0_4 (h : Hp) (hI : Inv h) (n : Int32) (nZ : Int) (nE : n.toInt = nZ) (nK : h.1 68 3 = n) (m : Int32) (mZ : Int) (mE : m.toInt = mZ) (mK : h.1 68 4 = m) : Ct y_County_copyFrom b_County_copyFrom 2 none 2 81 [.ref 0, .ref 68] h (q_County_copyX_0_4 h n nZ m mZ) := by
  refine ct_ow R_County [some (.ref 0), some (.ref 68)] rfl (by decide) rfl (Nat.le_of_ble_eq_true rfl) ?_
  have f0 : fr S_County_copyX_0_4 h h := fr_rf
  refine V_aload_n 0 d_County_copyFrom_0 rfl rfl ?_
  refine V_getR fa_County_12 sk_0 rfl d_County_copyFrom_1 ?_
  refine V_aload_n 1 d_County_copyFrom_4 rfl rfl ?_
  refine V_getR fa_County_12 sk_68 rfl d_County_copyFrom_5 ?_
  obtain ⟨z1, z1Z, z1E, z1e⟩ : ∃ (y : Int32) (Y : Int), y.toInt = Y ∧ y = h.1 69 0 := ⟨_, _, rfl, rfl⟩
  have g2 : 2 ≤ z1Z ∧ z1Z ≤ 4 := inv_at hI z1E z1e rfl
  obtain ⟨z3, z3Z, z3E, z3e⟩ : ∃ (y : Int32) (Y : Int), y.toInt = Y ∧ y = h.1 69 1 := ⟨_, _, rfl, rfl⟩
  have g4 : 2 ≤ z3Z ∧ z3Z ≤ 4 := inv_at hI z3E z3e rfl
  obtain ⟨z5, z5Z, z5E, z5e⟩ : ∃ (y : Int32) (Y : Int), y.toInt = Y ∧ y = h.1 69 2 := ⟨_, _, rfl, rfl⟩
  obtain ⟨z6, z6Z, z6E, z6e⟩ : ∃ (y : Int32) (Y : Int), y.toInt = Y ∧ y = h.1 69 3 := ⟨_, _, rfl, rfl⟩
  refine N_callVV [.ref 69] [] cv_County_47 sk_1 rfl d_County_copyFrom_8 rfl (Nat.le_of_ble_eq_true rfl) (by decide) (by decide) (c_Land_copyX_0_4 h hI z1 z1Z z1E z1e.symm z3 z3Z z3E z3e.symm z5 z5Z z5E z5e.symm z6 z6Z z6E z6e.symm) (fun h8 p9 => ?_)
  obtain ⟨hI10, fh8, p9⟩ := p9
  have f11 : fr S_County_copyX_0_4 h h8 := fr_call f0 fh8 rfl
  have qL := p9
  refine V_aload_n 0 d_County_copyFrom_11 rfl rfl ?_
  refine V_getR fa_County_21 sk_0 rfl d_County_copyFrom_12 ?_
  refine V_aload_n 1 d_County_copyFrom_15 rfl rfl ?_
  refine V_getR fa_County_21 sk_68 rfl d_County_copyFrom_16 ?_
  obtain ⟨z12, z12Z, z12E, z12e⟩ : ∃ (y : Int32) (Y : Int), y.toInt = Y ∧ y = h8.1 75 4 := ⟨_, _, rfl, rfl⟩
  have g13 : 0 ≤ z12Z ∧ z12Z ≤ 8 := inv_at hI10 z12E z12e rfl
  refine N_callVV [.ref 75] [] cv_County_51 sk_7 rfl d_County_copyFrom_19 rfl (Nat.le_of_ble_eq_true rfl) (by decide) (by decide) (c_Ledger_copyX_0_4 h8 hI10 z12 z12Z z12E z12e.symm) (fun h15 p16 => ?_)
  obtain ⟨hI17, fh15, p16⟩ := p16
  have f18 : fr S_County_copyX_0_4 h h15 := fr_call f11 fh15 rfl
  have qG := p16
  refine V_aload_n 0 d_County_copyFrom_22 rfl rfl ?_
  refine V_getR fa_County_28 sk_0 rfl d_County_copyFrom_23 ?_
  refine V_aload_n 1 d_County_copyFrom_26 rfl rfl ?_
  refine V_getR fa_County_28 sk_68 rfl d_County_copyFrom_27 ?_
  obtain ⟨z19, z19Z, z19E, z19e⟩ : ∃ (y : Int32) (Y : Int), y.toInt = Y ∧ y = h15.1 80 4 := ⟨_, _, rfl, rfl⟩
  have g20 : 0 ≤ z19Z ∧ z19Z ≤ 8 := inv_at hI17 z19E z19e rfl
  refine N_callVV [.ref 80] [] cv_County_54 sk_12 rfl d_County_copyFrom_30 rfl (Nat.le_of_ble_eq_true rfl) (by decide) (by decide) (c_Sights_copyX_0_4 h15 hI17 z19 z19Z z19E z19e.symm) (fun h22 p23 => ?_)
  obtain ⟨hI24, fh22, p23⟩ := p23
  have f25 : fr S_County_copyX_0_4 h h22 := fr_call f18 fh22 rfl
  have qS := p23
  refine V_aload_n 0 d_County_copyFrom_33 rfl rfl ?_
  refine V_aload_n 1 d_County_copyFrom_34 rfl rfl ?_
  refine N_getK fa_County_41 sk_68 rfl d_County_copyFrom_35 (kn_call fh22 (kn_call fh15 (kn_call fh8 nK rfl) rfl) rfl) ?_
  refine N_putI fp_County_41 sk_0 rfl d_County_copyFrom_38 (fun h26 eh26 => ?_)
  have hI27 : Inv h26 := inv_full hI24 eh26 rfl
  have f28 : fr S_County_copyX_0_4 h h26 := fr_put f25 eh26 rfl
  refine V_aload_n 0 d_County_copyFrom_41 rfl rfl ?_
  refine V_aload_n 1 d_County_copyFrom_42 rfl rfl ?_
  refine N_getK fa_County_44 sk_68 rfl d_County_copyFrom_43 (kn_ne eh26 (kn_call fh22 (kn_call fh15 (kn_call fh8 mK rfl) rfl) rfl) (by decide)) ?_
  refine N_putI fp_County_44 sk_0 rfl d_County_copyFrom_46 (fun h29 eh29 => ?_)
  have hI30 : Inv h29 := inv_full hI27 eh29 rfl
  have f31 : fr S_County_copyX_0_4 h h29 := fr_put f28 eh29 rfl
  exact V_vret rfl d_County_copyFrom_49 ⟨rfl, ⟨hI30, f31, (cpy_of (a := 0) (b := 68) qL fh15 qG fh22 qS fh8 eh26 eh29 nK mK rfl rfl rfl rfl)⟩⟩
end
section
def S_Mod_copiesX : List (Nat × Option Nat) := [(117, none)]
abbrev q_Mod_copiesX (h : Hp) (t : Int32) (tZ : Int) (f : Int32) (fZ : Int) : Option Value → Hp → Prop := pVd (fun h' => Inv h' ∧ fr S_Mod_copiesX h h' ∧ (mcl h h' tZ fZ 144))
set_option maxRecDepth 100000 in
theorem c_Mod_copiesX (h : Hp) (hI : Inv h) (t : Int32) (tZ : Int) (tE : t.toInt = tZ) (f : Int32) (fZ : Int) (fE : f.toInt = fZ) (hy0 : (tZ = 0 ∨ tZ = 144 ∨ tZ = 288) ∧ (fZ = 0 ∨ fZ = 144 ∨ fZ = 288)) (hy1 : tZ ≠ fZ) : Ct y_Mod_copies b_Mod_copies 4 none 0 0 [.ref 116, .int t, .int f] h (q_Mod_copiesX h t tZ f fZ) := by
  refine ct_ow R_Mod [some (.ref 116), some (.int t), some (.int f), none] rfl (by decide) rfl (Nat.le_of_ble_eq_true rfl) ?_
  have f0 : fr S_Mod_copiesX h h := fr_rf
  refine V_iconst 0 d_Mod_copies_0 (by decide) ?_
  refine V_istore_n 3 [some (.ref 116), some (.int t), some (.int f), some (.int 0)] d_Mod_copies_1 rfl (by decide) rfl rfl ?_
  have L1 : ∀ (nn : Nat) (v3 : Int32) (v3Z : Int) (h4 : Hp), v3.toInt = v3Z → Inv h4 → fr S_Mod_copiesX h h4 → 0 ≤ v3Z ∧ v3Z ≤ 144 → mcl h h4 tZ fZ v3Z → 144 - v3Z < (nn : Int) → V R_Mod b_Mod_copies 4 none 0 0 (q_Mod_copiesX h t tZ f fZ) h4 2 [some (.ref 116), some (.int t), some (.int f), some (.int v3)] [] := by
    intro nn
    induction nn with
    | zero => intro v3 v3Z h4 v3E Ih4 Fh4 q5 q6 hm7; exact absurd hm7 (by omega)
    | succ nn ihL1 =>
      intro v3 v3Z h4 v3E Ih4 Fh4 q5 q6 hm7
      refine V_iload_n 3 d_Mod_copies_2 rfl rfl ?_
      refine V_sipush 144 d_Mod_copies_3 (by decide) ?_
      refine V_icmp_ge 31 v3E tc_144 d_Mod_copies_6 (by decide) (fun c8 => ?_) (fun c8 => ?_)
      ·
        exact V_vret rfl d_Mod_copies_31 ⟨rfl, ⟨Ih4, Fh4, (by rw [show (144 : Int) = v3Z by omega]; assumption)⟩⟩
      ·
        refine V_aload_n 0 d_Mod_copies_9 rfl rfl ?_
        refine V_getR fa_Mod_7 sk_116 rfl d_Mod_copies_10 ?_
        refine V_iload_n 1 d_Mod_copies_13 rfl rfl ?_
        refine V_iload_n 3 d_Mod_copies_14 rfl rfl ?_
        refine V_iadd tE v3E (by omega) d_Mod_copies_15 (fun z9 z9e z9E => ?_)
        refine V_aload_n 0 d_Mod_copies_16 rfl rfl ?_
        refine V_getR fa_Mod_7 sk_116 rfl d_Mod_copies_17 ?_
        refine V_iload_n 2 d_Mod_copies_20 rfl rfl ?_
        refine V_iload_n 3 d_Mod_copies_21 rfl rfl ?_
        refine V_iadd fE v3E (by omega) d_Mod_copies_22 (fun z10 z10e z10E => ?_)
        refine N_iald sk_117 z10E (by omega) d_Mod_copies_23 (fun z11 z11Z z11E z11e => ?_)
        refine N_iast sk_117 z9E (by omega) d_Mod_copies_24 (fun h12 eh12 => ?_)
        have hI13 : Inv h12 := inv_st Ih4 eh12 (Or.inl rfl) z11E (stOk_of Ih4 (Or.inl rfl) z11E z11e (by omega))
        have f14 : fr S_Mod_copiesX h h12 := fr_put Fh4 eh12 rfl
        obtain ⟨z15, z15E, z15e⟩ : ∃ y : Int32, y.toInt = v3Z + 1 ∧ y = v3 + Int32.ofInt 1 := ⟨_, ti_add v3E (by decide) (by omega), rfl⟩
        refine V_iinc 3 [some (.ref 116), some (.int t), some (.int f), some (.int z15)] d_Mod_copies_25 rfl z15e.symm (by decide) rfl rfl ?_
        refine V_goto 2 d_Mod_copies_28 (by decide) ?_
        exact ihL1 z15 ((v3Z + 1)) h12 z15E hI13 f14 (by omega) (mcl_s (by assumption) (by omega) hy0 hy1 eh12 (by assumption)) (by omega)
  exact L1 (Int.toNat ((144 - 0 : Int) + 1)) 0 0 h tc_0 hI f0 (by omega) mcl_0 (by omega)
def S_Rod_keepX : List (Nat × Option Nat) := [(34, some 3), (34, some 4), (35, none), (36, none), (37, none), (38, none), (39, none), (40, none), (41, some 4), (42, none), (43, none), (44, none), (45, none), (46, some 4), (47, none), (48, none), (49, none), (50, none), (51, some 3), (51, some 4), (52, none), (53, none), (54, none), (55, none), (56, none), (57, none), (58, some 4), (59, none), (60, none), (61, none), (62, none), (63, some 4), (64, none), (65, none), (66, none), (67, none), (87, none)]
abbrev q_Rod_keepX (h : Hp) (k : Int32) (kZ : Int) : Option Value → Hp → Prop := pInt (fun r h' => Inv h' ∧ fr S_Rod_keepX h h' ∧ (kZ = 0 ∧ KP h h' 34 51 0 ∧ FQ (h.1 87 0) r ∨ kZ = 1 ∧ KP h h' 51 34 1 ∧ FQ (h.1 87 1) r ∨ (kZ < 0 ∨ 1 < kZ) ∧ h' = h ∧ r.toInt = -1))
set_option maxRecDepth 100000 in
theorem c_Rod_keepX (h : Hp) (hI : Inv h) (k : Int32) (kZ : Int) (kE : k.toInt = kZ) : Ct y_Rod_keep b_Rod_keep 3 (some .int) 3 102 [.ref 85, .int k] h (q_Rod_keepX h k kZ) := by
  refine ct_ow R_Rod [some (.ref 85), some (.int k), none] rfl (by decide) rfl (Nat.le_of_ble_eq_true rfl) ?_
  have f0 : fr S_Rod_keepX h h := fr_rf
  refine V_iload_n 1 d_Rod_keep_0 rfl rfl ?_
  refine V_if_lt 9 kE d_Rod_keep_1 (by decide) (fun c1 => ?_) (fun c1 => ?_)
  ·
    refine V_iconst (-1) d_Rod_keep_9 (by decide) ?_
    exact V_iret rfl d_Rod_keep_10 ⟨(-1), rfl, ⟨hI, f0, (Or.inr (Or.inr ⟨by omega, rfl, tc_m1⟩))⟩⟩
  ·
    refine V_iload_n 1 d_Rod_keep_4 rfl rfl ?_
    refine V_iconst 2 d_Rod_keep_5 (by decide) ?_
    refine V_icmp_lt 11 kE tc_2 d_Rod_keep_6 (by decide) (fun c2 => ?_) (fun c2 => ?_)
    ·
      refine V_aload_n 0 d_Rod_keep_11 rfl rfl ?_
      refine V_getR fa_Rod_23 sk_85 rfl d_Rod_keep_12 ?_
      refine V_iload_n 1 d_Rod_keep_15 rfl rfl ?_
      refine N_zald sk_87 kE (by omega) d_Rod_keep_16 (fun z3 z3Z z3E z3e => ?_)
      refine N_callSI [.int z3] [] cs_Rod_147 d_Rod_keep_17 rfl (Nat.le_of_ble_eq_true rfl) (by decide) (by decide) (c_Rod_oneIf h z3 z3Z z3E) (fun z4 h5 z4Z z4E p6 => ?_)
      obtain ⟨eh5, p6⟩ := p6
      subst eh5
      refine V_istore_n 2 [some (.ref 85), some (.int k), some (.int z4)] d_Rod_keep_20 rfl (by decide) rfl rfl ?_
      refine V_aload_n 0 d_Rod_keep_21 rfl rfl ?_
      refine V_getR fa_Rod_19 sk_85 rfl d_Rod_keep_22 ?_
      refine V_iload_n 1 d_Rod_keep_25 rfl rfl ?_
      rcases (by omega : kZ = 0 ∨ kZ = 1) with c7 | c7
      ·
        refine V_aald (r := 34) sk_86 (by decide) kE (by omega) (by rw [c7]; rfl) d_Rod_keep_26 ?_
        refine V_aload_n 0 d_Rod_keep_27 rfl rfl ?_
        refine V_getR fa_Rod_12 sk_85 rfl d_Rod_keep_28 ?_
        obtain ⟨z8, z8Z, z8E, z8e⟩ : ∃ (y : Int32) (Y : Int), y.toInt = Y ∧ y = h.1 0 3 := ⟨_, _, rfl, rfl⟩
        obtain ⟨z9, z9Z, z9E, z9e⟩ : ∃ (y : Int32) (Y : Int), y.toInt = Y ∧ y = h.1 0 4 := ⟨_, _, rfl, rfl⟩
        refine N_callVV [.ref 0] [] cv_Rod_84 sk_34 rfl d_Rod_keep_31 rfl (Nat.le_of_ble_eq_true rfl) (by decide) (by decide) (c_County_copyX_2_0 h hI z8 z8Z z8E z8e.symm z9 z9Z z9E z9e.symm) (fun h11 p12 => ?_)
        obtain ⟨hI13, fh11, p12⟩ := p12
        have f14 : fr S_Rod_keepX h h11 := fr_call f0 fh11 rfl
        refine V_aload_n 0 d_Rod_keep_34 rfl rfl ?_
        refine V_getR fa_Rod_23 sk_85 rfl d_Rod_keep_35 ?_
        refine V_iload_n 1 d_Rod_keep_38 rfl rfl ?_
        refine V_iconst 1 d_Rod_keep_39 (by decide) ?_
        refine N_zast sk_87 kE (by omega) d_Rod_keep_40 (fun h15 eh15 => ?_)
        have hI16 : Inv h15 := inv_full hI13 eh15 rfl
        have f17 : fr S_Rod_keepX h h15 := fr_put f14 eh15 rfl
        refine V_iload_n 2 d_Rod_keep_41 rfl rfl ?_
        exact V_iret rfl d_Rod_keep_42 ⟨z4, rfl, ⟨hI16, f17, (Or.inl ⟨by omega, KP_of p12 fh11 rfl rfl (by decide) eh15 (by decide) (by omega), FQ_of z3e (by omega) z3E p6⟩)⟩⟩
      ·
        refine V_aald (r := 51) sk_86 (by decide) kE (by omega) (by rw [c7]; rfl) d_Rod_keep_26 ?_
        refine V_aload_n 0 d_Rod_keep_27 rfl rfl ?_
        refine V_getR fa_Rod_12 sk_85 rfl d_Rod_keep_28 ?_
        obtain ⟨z18, z18Z, z18E, z18e⟩ : ∃ (y : Int32) (Y : Int), y.toInt = Y ∧ y = h.1 0 3 := ⟨_, _, rfl, rfl⟩
        obtain ⟨z19, z19Z, z19E, z19e⟩ : ∃ (y : Int32) (Y : Int), y.toInt = Y ∧ y = h.1 0 4 := ⟨_, _, rfl, rfl⟩
        refine N_callVV [.ref 0] [] cv_Rod_84 sk_51 rfl d_Rod_keep_31 rfl (Nat.le_of_ble_eq_true rfl) (by decide) (by decide) (c_County_copyX_3_0 h hI z18 z18Z z18E z18e.symm z19 z19Z z19E z19e.symm) (fun h21 p22 => ?_)
        obtain ⟨hI23, fh21, p22⟩ := p22
        have f24 : fr S_Rod_keepX h h21 := fr_call f0 fh21 rfl
        refine V_aload_n 0 d_Rod_keep_34 rfl rfl ?_
        refine V_getR fa_Rod_23 sk_85 rfl d_Rod_keep_35 ?_
        refine V_iload_n 1 d_Rod_keep_38 rfl rfl ?_
        refine V_iconst 1 d_Rod_keep_39 (by decide) ?_
        refine N_zast sk_87 kE (by omega) d_Rod_keep_40 (fun h25 eh25 => ?_)
        have hI26 : Inv h25 := inv_full hI23 eh25 rfl
        have f27 : fr S_Rod_keepX h h25 := fr_put f24 eh25 rfl
        refine V_iload_n 2 d_Rod_keep_41 rfl rfl ?_
        exact V_iret rfl d_Rod_keep_42 ⟨z4, rfl, ⟨hI26, f27, (Or.inr (Or.inl ⟨by omega, KP_of p22 fh21 rfl rfl (by decide) eh25 (by decide) (by omega), FQ_of z3e (by omega) z3E p6⟩))⟩⟩
    ·
      refine V_iconst (-1) d_Rod_keep_9 (by decide) ?_
      exact V_iret rfl d_Rod_keep_10 ⟨(-1), rfl, ⟨hI, f0, (Or.inr (Or.inr ⟨by omega, rfl, tc_m1⟩))⟩⟩
def S_Mod_keepX : List (Nat × Option Nat) := [(117, none), (118, none)]
abbrev q_Mod_keepX (h : Hp) (k : Int32) (kZ : Int) : Option Value → Hp → Prop := pInt (fun r h' => Inv h' ∧ fr S_Mod_keepX h h' ∧ (kZ = 0 ∧ MKP h h' 144 0 ∧ FQ (h.1 118 0) r ∨ kZ = 1 ∧ MKP h h' 288 1 ∧ FQ (h.1 118 1) r ∨ (kZ < 0 ∨ 1 < kZ) ∧ h' = h ∧ r.toInt = -1))
set_option maxRecDepth 100000 in
theorem c_Mod_keepX (h : Hp) (hI : Inv h) (k : Int32) (kZ : Int) (kE : k.toInt = kZ) : Ct y_Mod_keep b_Mod_keep 3 (some .int) 1 25 [.ref 116, .int k] h (q_Mod_keepX h k kZ) := by
  refine ct_ow R_Mod [some (.ref 116), some (.int k), none] rfl (by decide) rfl (Nat.le_of_ble_eq_true rfl) ?_
  have f0 : fr S_Mod_keepX h h := fr_rf
  refine V_iload_n 1 d_Mod_keep_0 rfl rfl ?_
  refine V_i2l d_Mod_keep_1 (fun z1 z1e z1E => ?_)
  have z1F : z1.toInt = kZ := z1E.trans kE
  refine V_lconst 0 d_Mod_keep_2 (by decide) ?_
  refine V_lconst 1 d_Mod_keep_3 (by decide) ?_
  refine N_callSI [.long z1, .long 0, .long 1] [] cs_Mod_95 d_Mod_keep_4 rfl (Nat.le_of_ble_eq_true rfl) (by decide) (by decide) (c_Mod_in h z1 kZ z1F 0 0 tl_0 1 1 tl_1) (fun z2 h3 z2Z z2E p4 => ?_)
  obtain ⟨eh3, p4⟩ := p4
  subst eh3
  refine V_if_ne 12 z2E d_Mod_keep_7 (by decide) (fun c5 => ?_) (fun c5 => ?_)
  ·
    rcases (by omega : kZ = 0 ∨ kZ = 1) with c6 | c6
    ·
      refine V_aload_n 0 d_Mod_keep_12 rfl rfl ?_
      refine V_getR fa_Mod_13 sk_116 rfl d_Mod_keep_13 ?_
      refine V_iload_n 1 d_Mod_keep_16 rfl rfl ?_
      refine N_zald sk_118 kE (by omega) d_Mod_keep_17 (fun z7 z7Z z7E z7e => ?_)
      refine N_callSI [.int z7] [] cs_Mod_196 d_Mod_keep_18 rfl (Nat.le_of_ble_eq_true rfl) (by decide) (by decide) (c_Mod_flag h z7 z7Z z7E) (fun z8 h9 z8Z z8E p10 => ?_)
      obtain ⟨eh9, p10⟩ := p10
      subst eh9
      refine V_istore_n 2 [some (.ref 116), some (.int k), some (.int z8)] d_Mod_keep_21 rfl (by decide) rfl rfl ?_
      refine V_aload_n 0 d_Mod_keep_22 rfl rfl ?_
      refine V_getR fa_Mod_13 sk_116 rfl d_Mod_keep_23 ?_
      refine V_iload_n 1 d_Mod_keep_26 rfl rfl ?_
      refine V_iconst 1 d_Mod_keep_27 (by decide) ?_
      refine N_zast sk_118 kE (by omega) d_Mod_keep_28 (fun h11 eh11 => ?_)
      have hI12 : Inv h11 := inv_full hI eh11 rfl
      have f13 : fr S_Mod_keepX h h11 := fr_put f0 eh11 rfl
      refine V_aload_n 0 d_Mod_keep_29 rfl rfl ?_
      refine V_sipush 144 d_Mod_keep_30 (by decide) ?_
      refine V_iload_n 1 d_Mod_keep_33 rfl rfl ?_
      refine V_iconst 1 d_Mod_keep_34 (by decide) ?_
      refine V_iadd kE tc_1 (by omega) d_Mod_keep_35 (fun z14 z14e z14E => ?_)
      refine V_imul tc_144 z14E (by omega) d_Mod_keep_36 (fun z15 z15e z15E => ?_)
      refine V_iconst 0 d_Mod_keep_37 (by decide) ?_
      refine N_callVV [.int z15, .int 0] [] cv_Mod_317 sk_116 rfl d_Mod_keep_38 rfl (Nat.le_of_ble_eq_true rfl) (by decide) (by decide) (c_Mod_copiesX h11 hI12 z15 ((144 * (kZ + 1))) z15E 0 0 tc_0 (by omega) (by omega)) (fun h17 p18 => ?_)
      obtain ⟨hI19, fh17, p18⟩ := p18
      have f20 : fr S_Mod_keepX h h17 := fr_call f13 fh17 rfl
      refine V_iload_n 2 d_Mod_keep_41 rfl rfl ?_
      exact V_iret rfl d_Mod_keep_42 ⟨z8, rfl, ⟨hI19, f20, (Or.inl ⟨by omega, MKP_of eh11 (by decide) (by omega) p18 (by omega) fh17 rfl, FQ_of z7e (by omega) z7E p10⟩)⟩⟩
    ·
      refine V_aload_n 0 d_Mod_keep_12 rfl rfl ?_
      refine V_getR fa_Mod_13 sk_116 rfl d_Mod_keep_13 ?_
      refine V_iload_n 1 d_Mod_keep_16 rfl rfl ?_
      refine N_zald sk_118 kE (by omega) d_Mod_keep_17 (fun z21 z21Z z21E z21e => ?_)
      refine N_callSI [.int z21] [] cs_Mod_196 d_Mod_keep_18 rfl (Nat.le_of_ble_eq_true rfl) (by decide) (by decide) (c_Mod_flag h z21 z21Z z21E) (fun z22 h23 z22Z z22E p24 => ?_)
      obtain ⟨eh23, p24⟩ := p24
      subst eh23
      refine V_istore_n 2 [some (.ref 116), some (.int k), some (.int z22)] d_Mod_keep_21 rfl (by decide) rfl rfl ?_
      refine V_aload_n 0 d_Mod_keep_22 rfl rfl ?_
      refine V_getR fa_Mod_13 sk_116 rfl d_Mod_keep_23 ?_
      refine V_iload_n 1 d_Mod_keep_26 rfl rfl ?_
      refine V_iconst 1 d_Mod_keep_27 (by decide) ?_
      refine N_zast sk_118 kE (by omega) d_Mod_keep_28 (fun h25 eh25 => ?_)
      have hI26 : Inv h25 := inv_full hI eh25 rfl
      have f27 : fr S_Mod_keepX h h25 := fr_put f0 eh25 rfl
      refine V_aload_n 0 d_Mod_keep_29 rfl rfl ?_
      refine V_sipush 144 d_Mod_keep_30 (by decide) ?_
      refine V_iload_n 1 d_Mod_keep_33 rfl rfl ?_
      refine V_iconst 1 d_Mod_keep_34 (by decide) ?_
      refine V_iadd kE tc_1 (by omega) d_Mod_keep_35 (fun z28 z28e z28E => ?_)
      refine V_imul tc_144 z28E (by omega) d_Mod_keep_36 (fun z29 z29e z29E => ?_)
      refine V_iconst 0 d_Mod_keep_37 (by decide) ?_
      refine N_callVV [.int z29, .int 0] [] cv_Mod_317 sk_116 rfl d_Mod_keep_38 rfl (Nat.le_of_ble_eq_true rfl) (by decide) (by decide) (c_Mod_copiesX h25 hI26 z29 ((144 * (kZ + 1))) z29E 0 0 tc_0 (by omega) (by omega)) (fun h31 p32 => ?_)
      obtain ⟨hI33, fh31, p32⟩ := p32
      have f34 : fr S_Mod_keepX h h31 := fr_call f27 fh31 rfl
      refine V_iload_n 2 d_Mod_keep_41 rfl rfl ?_
      exact V_iret rfl d_Mod_keep_42 ⟨z22, rfl, ⟨hI33, f34, (Or.inr (Or.inl ⟨by omega, MKP_of eh25 (by decide) (by omega) p32 (by omega) fh31 rfl, FQ_of z21e (by omega) z21E p24⟩))⟩⟩
  ·
    refine V_iconst (-1) d_Mod_keep_10 (by decide) ?_
    exact V_iret rfl d_Mod_keep_11 ⟨(-1), rfl, ⟨hI, f0, (Or.inr (Or.inr ⟨by omega, rfl, tc_m1⟩))⟩⟩
def S_Rod_backX : List (Nat × Option Nat) := [(0, some 3), (0, some 4), (1, none), (2, none), (3, none), (4, none), (5, none), (6, none), (7, some 4), (8, none), (9, none), (10, none), (11, none), (12, some 4), (13, none), (14, none), (15, none), (16, none)]
abbrev q_Rod_backX (h : Hp) (k : Int32) (kZ : Int) : Option Value → Hp → Prop := pInt (fun r h' => Inv h' ∧ fr S_Rod_backX h h' ∧ (kZ = 0 ∧ (h.1 87 0).toInt ≠ 0 ∧ cpy h h' 0 34 ∨ kZ = 1 ∧ (h.1 87 1).toInt ≠ 0 ∧ cpy h h' 0 51 ∨ (kZ = 0 ∧ (h.1 87 0).toInt = 0 ∨ kZ = 1 ∧ (h.1 87 1).toInt = 0 ∨ kZ < 0 ∨ 1 < kZ) ∧ h' = h))
set_option maxRecDepth 100000 in
theorem c_Rod_backX (h : Hp) (hI : Inv h) (k : Int32) (kZ : Int) (kE : k.toInt = kZ) : Ct y_Rod_back b_Rod_back 2 (some .int) 3 102 [.ref 85, .int k] h (q_Rod_backX h k kZ) := by
  refine ct_ow R_Rod [some (.ref 85), some (.int k)] rfl (by decide) rfl (Nat.le_of_ble_eq_true rfl) ?_
  have f0 : fr S_Rod_backX h h := fr_rf
  refine V_iload_n 1 d_Rod_back_0 rfl rfl ?_
  refine V_if_lt 9 kE d_Rod_back_1 (by decide) (fun c1 => ?_) (fun c1 => ?_)
  ·
    refine V_iconst (-1) d_Rod_back_9 (by decide) ?_
    exact V_iret rfl d_Rod_back_10 ⟨(-1), rfl, ⟨hI, f0, (Or.inr (Or.inr ⟨by omega, rfl⟩))⟩⟩
  ·
    refine V_iload_n 1 d_Rod_back_4 rfl rfl ?_
    refine V_iconst 2 d_Rod_back_5 (by decide) ?_
    refine V_icmp_lt 11 kE tc_2 d_Rod_back_6 (by decide) (fun c2 => ?_) (fun c2 => ?_)
    ·
      rcases (by omega : kZ = 0 ∨ kZ = 1) with c3 | c3
      ·
        refine V_aload_n 0 d_Rod_back_11 rfl rfl ?_
        refine V_getR fa_Rod_23 sk_85 rfl d_Rod_back_12 ?_
        refine V_iload_n 1 d_Rod_back_15 rfl rfl ?_
        refine N_zald sk_87 kE (by omega) d_Rod_back_16 (fun z4 z4Z z4E z4e => ?_)
        refine V_if_ne 23 z4E d_Rod_back_17 (by decide) (fun c5 => ?_) (fun c5 => ?_)
        ·
          refine V_aload_n 0 d_Rod_back_23 rfl rfl ?_
          refine V_getR fa_Rod_12 sk_85 rfl d_Rod_back_24 ?_
          refine V_aload_n 0 d_Rod_back_27 rfl rfl ?_
          refine V_getR fa_Rod_19 sk_85 rfl d_Rod_back_28 ?_
          refine V_iload_n 1 d_Rod_back_31 rfl rfl ?_
          rcases (by omega : kZ = 0 ∨ kZ = 1) with c6 | c6
          ·
            refine V_aald (r := 34) sk_86 (by decide) kE (by omega) (by rw [c6]; rfl) d_Rod_back_32 ?_
            obtain ⟨z7, z7Z, z7E, z7e⟩ : ∃ (y : Int32) (Y : Int), y.toInt = Y ∧ y = h.1 34 3 := ⟨_, _, rfl, rfl⟩
            obtain ⟨z8, z8Z, z8E, z8e⟩ : ∃ (y : Int32) (Y : Int), y.toInt = Y ∧ y = h.1 34 4 := ⟨_, _, rfl, rfl⟩
            refine N_callVV [.ref 34] [] cv_Rod_84 sk_0 rfl d_Rod_back_33 rfl (Nat.le_of_ble_eq_true rfl) (by decide) (by decide) (c_County_copyX_0_2 h hI z7 z7Z z7E z7e.symm z8 z8Z z8E z8e.symm) (fun h10 p11 => ?_)
            obtain ⟨hI12, fh10, p11⟩ := p11
            have f13 : fr S_Rod_backX h h10 := fr_call f0 fh10 rfl
            refine V_aload_n 0 d_Rod_back_36 rfl rfl ?_
            refine V_getR fa_Rod_12 sk_85 rfl d_Rod_back_37 ?_
            refine V_getR fa_Rod_91 sk_0 rfl d_Rod_back_40 ?_
            obtain ⟨z14, z14Z, z14E, z14e⟩ : ∃ (y : Int32) (Y : Int), y.toInt = Y ∧ y = h10.1 1 0 := ⟨_, _, rfl, rfl⟩
            have g15 : 2 ≤ z14Z ∧ z14Z ≤ 4 := inv_at hI12 z14E z14e rfl
            obtain ⟨z16, z16Z, z16E, z16e⟩ : ∃ (y : Int32) (Y : Int), y.toInt = Y ∧ y = h10.1 1 1 := ⟨_, _, rfl, rfl⟩
            have g17 : 2 ≤ z16Z ∧ z16Z ≤ 4 := inv_at hI12 z16E z16e rfl
            refine N_callVI [] [] cv_Rod_168 sk_1 rfl d_Rod_back_43 rfl (Nat.le_of_ble_eq_true rfl) (by decide) (by decide) (c_Land_wells_0 h10 hI12 z14 z14Z z14E z14e.symm z16 z16Z z16E z16e.symm) (fun z18 h19 z18Z z18E p20 => ?_)
            subst p20
            exact V_iret rfl d_Rod_back_46 ⟨z18, rfl, ⟨hI12, f13, (Or.inl ⟨by omega, (by rw [show h.1 87 0 = z4 from by rw [z4e]; exact congrArg (h.1 87) (by omega), z4E]; omega), p11⟩)⟩⟩
          ·
            refine V_aald (r := 51) sk_86 (by decide) kE (by omega) (by rw [c6]; rfl) d_Rod_back_32 ?_
            obtain ⟨z21, z21Z, z21E, z21e⟩ : ∃ (y : Int32) (Y : Int), y.toInt = Y ∧ y = h.1 51 3 := ⟨_, _, rfl, rfl⟩
            obtain ⟨z22, z22Z, z22E, z22e⟩ : ∃ (y : Int32) (Y : Int), y.toInt = Y ∧ y = h.1 51 4 := ⟨_, _, rfl, rfl⟩
            refine N_callVV [.ref 51] [] cv_Rod_84 sk_0 rfl d_Rod_back_33 rfl (Nat.le_of_ble_eq_true rfl) (by decide) (by decide) (c_County_copyX_0_3 h hI z21 z21Z z21E z21e.symm z22 z22Z z22E z22e.symm) (fun h24 p25 => ?_)
            obtain ⟨hI26, fh24, p25⟩ := p25
            have f27 : fr S_Rod_backX h h24 := fr_call f0 fh24 rfl
            refine V_aload_n 0 d_Rod_back_36 rfl rfl ?_
            refine V_getR fa_Rod_12 sk_85 rfl d_Rod_back_37 ?_
            refine V_getR fa_Rod_91 sk_0 rfl d_Rod_back_40 ?_
            obtain ⟨z28, z28Z, z28E, z28e⟩ : ∃ (y : Int32) (Y : Int), y.toInt = Y ∧ y = h24.1 1 0 := ⟨_, _, rfl, rfl⟩
            have g29 : 2 ≤ z28Z ∧ z28Z ≤ 4 := inv_at hI26 z28E z28e rfl
            obtain ⟨z30, z30Z, z30E, z30e⟩ : ∃ (y : Int32) (Y : Int), y.toInt = Y ∧ y = h24.1 1 1 := ⟨_, _, rfl, rfl⟩
            have g31 : 2 ≤ z30Z ∧ z30Z ≤ 4 := inv_at hI26 z30E z30e rfl
            refine N_callVI [] [] cv_Rod_168 sk_1 rfl d_Rod_back_43 rfl (Nat.le_of_ble_eq_true rfl) (by decide) (by decide) (c_Land_wells_0 h24 hI26 z28 z28Z z28E z28e.symm z30 z30Z z30E z30e.symm) (fun z32 h33 z32Z z32E p34 => ?_)
            subst p34
            exact V_iret rfl d_Rod_back_46 ⟨z32, rfl, ⟨hI26, f27, (by exfalso; omega)⟩⟩
        ·
          refine V_bipush (-2) d_Rod_back_20 (by decide) ?_
          exact V_iret rfl d_Rod_back_22 ⟨(-2), rfl, ⟨hI, f0, (Or.inr (Or.inr ⟨Or.inl ⟨by omega, (by rw [show h.1 87 0 = z4 from by rw [z4e]; exact congrArg (h.1 87) (by omega), z4E]; omega)⟩, rfl⟩))⟩⟩
      ·
        refine V_aload_n 0 d_Rod_back_11 rfl rfl ?_
        refine V_getR fa_Rod_23 sk_85 rfl d_Rod_back_12 ?_
        refine V_iload_n 1 d_Rod_back_15 rfl rfl ?_
        refine N_zald sk_87 kE (by omega) d_Rod_back_16 (fun z35 z35Z z35E z35e => ?_)
        refine V_if_ne 23 z35E d_Rod_back_17 (by decide) (fun c36 => ?_) (fun c36 => ?_)
        ·
          refine V_aload_n 0 d_Rod_back_23 rfl rfl ?_
          refine V_getR fa_Rod_12 sk_85 rfl d_Rod_back_24 ?_
          refine V_aload_n 0 d_Rod_back_27 rfl rfl ?_
          refine V_getR fa_Rod_19 sk_85 rfl d_Rod_back_28 ?_
          refine V_iload_n 1 d_Rod_back_31 rfl rfl ?_
          rcases (by omega : kZ = 0 ∨ kZ = 1) with c37 | c37
          ·
            refine V_aald (r := 34) sk_86 (by decide) kE (by omega) (by rw [c37]; rfl) d_Rod_back_32 ?_
            obtain ⟨z38, z38Z, z38E, z38e⟩ : ∃ (y : Int32) (Y : Int), y.toInt = Y ∧ y = h.1 34 3 := ⟨_, _, rfl, rfl⟩
            obtain ⟨z39, z39Z, z39E, z39e⟩ : ∃ (y : Int32) (Y : Int), y.toInt = Y ∧ y = h.1 34 4 := ⟨_, _, rfl, rfl⟩
            refine N_callVV [.ref 34] [] cv_Rod_84 sk_0 rfl d_Rod_back_33 rfl (Nat.le_of_ble_eq_true rfl) (by decide) (by decide) (c_County_copyX_0_2 h hI z38 z38Z z38E z38e.symm z39 z39Z z39E z39e.symm) (fun h41 p42 => ?_)
            obtain ⟨hI43, fh41, p42⟩ := p42
            have f44 : fr S_Rod_backX h h41 := fr_call f0 fh41 rfl
            refine V_aload_n 0 d_Rod_back_36 rfl rfl ?_
            refine V_getR fa_Rod_12 sk_85 rfl d_Rod_back_37 ?_
            refine V_getR fa_Rod_91 sk_0 rfl d_Rod_back_40 ?_
            obtain ⟨z45, z45Z, z45E, z45e⟩ : ∃ (y : Int32) (Y : Int), y.toInt = Y ∧ y = h41.1 1 0 := ⟨_, _, rfl, rfl⟩
            have g46 : 2 ≤ z45Z ∧ z45Z ≤ 4 := inv_at hI43 z45E z45e rfl
            obtain ⟨z47, z47Z, z47E, z47e⟩ : ∃ (y : Int32) (Y : Int), y.toInt = Y ∧ y = h41.1 1 1 := ⟨_, _, rfl, rfl⟩
            have g48 : 2 ≤ z47Z ∧ z47Z ≤ 4 := inv_at hI43 z47E z47e rfl
            refine N_callVI [] [] cv_Rod_168 sk_1 rfl d_Rod_back_43 rfl (Nat.le_of_ble_eq_true rfl) (by decide) (by decide) (c_Land_wells_0 h41 hI43 z45 z45Z z45E z45e.symm z47 z47Z z47E z47e.symm) (fun z49 h50 z49Z z49E p51 => ?_)
            subst p51
            exact V_iret rfl d_Rod_back_46 ⟨z49, rfl, ⟨hI43, f44, (by exfalso; omega)⟩⟩
          ·
            refine V_aald (r := 51) sk_86 (by decide) kE (by omega) (by rw [c37]; rfl) d_Rod_back_32 ?_
            obtain ⟨z52, z52Z, z52E, z52e⟩ : ∃ (y : Int32) (Y : Int), y.toInt = Y ∧ y = h.1 51 3 := ⟨_, _, rfl, rfl⟩
            obtain ⟨z53, z53Z, z53E, z53e⟩ : ∃ (y : Int32) (Y : Int), y.toInt = Y ∧ y = h.1 51 4 := ⟨_, _, rfl, rfl⟩
            refine N_callVV [.ref 51] [] cv_Rod_84 sk_0 rfl d_Rod_back_33 rfl (Nat.le_of_ble_eq_true rfl) (by decide) (by decide) (c_County_copyX_0_3 h hI z52 z52Z z52E z52e.symm z53 z53Z z53E z53e.symm) (fun h55 p56 => ?_)
            obtain ⟨hI57, fh55, p56⟩ := p56
            have f58 : fr S_Rod_backX h h55 := fr_call f0 fh55 rfl
            refine V_aload_n 0 d_Rod_back_36 rfl rfl ?_
            refine V_getR fa_Rod_12 sk_85 rfl d_Rod_back_37 ?_
            refine V_getR fa_Rod_91 sk_0 rfl d_Rod_back_40 ?_
            obtain ⟨z59, z59Z, z59E, z59e⟩ : ∃ (y : Int32) (Y : Int), y.toInt = Y ∧ y = h55.1 1 0 := ⟨_, _, rfl, rfl⟩
            have g60 : 2 ≤ z59Z ∧ z59Z ≤ 4 := inv_at hI57 z59E z59e rfl
            obtain ⟨z61, z61Z, z61E, z61e⟩ : ∃ (y : Int32) (Y : Int), y.toInt = Y ∧ y = h55.1 1 1 := ⟨_, _, rfl, rfl⟩
            have g62 : 2 ≤ z61Z ∧ z61Z ≤ 4 := inv_at hI57 z61E z61e rfl
            refine N_callVI [] [] cv_Rod_168 sk_1 rfl d_Rod_back_43 rfl (Nat.le_of_ble_eq_true rfl) (by decide) (by decide) (c_Land_wells_0 h55 hI57 z59 z59Z z59E z59e.symm z61 z61Z z61E z61e.symm) (fun z63 h64 z63Z z63E p65 => ?_)
            subst p65
            exact V_iret rfl d_Rod_back_46 ⟨z63, rfl, ⟨hI57, f58, (Or.inr (Or.inl ⟨by omega, (by rw [show h.1 87 1 = z35 from by rw [z35e]; exact congrArg (h.1 87) (by omega), z35E]; omega), p56⟩))⟩⟩
        ·
          refine V_bipush (-2) d_Rod_back_20 (by decide) ?_
          exact V_iret rfl d_Rod_back_22 ⟨(-2), rfl, ⟨hI, f0, (Or.inr (Or.inr ⟨Or.inr (Or.inl ⟨by omega, (by rw [show h.1 87 1 = z35 from by rw [z35e]; exact congrArg (h.1 87) (by omega), z35E]; omega)⟩), rfl⟩))⟩⟩
    ·
      refine V_iconst (-1) d_Rod_back_9 (by decide) ?_
      exact V_iret rfl d_Rod_back_10 ⟨(-1), rfl, ⟨hI, f0, (Or.inr (Or.inr ⟨by omega, rfl⟩))⟩⟩
def S_Mod_backX : List (Nat × Option Nat) := [(117, none)]
abbrev q_Mod_backX (h : Hp) (k : Int32) (kZ : Int) (w : Int32) (wZ : Int) (g : Int32) (gZ : Int) : Option Value → Hp → Prop := pInt (fun r h' => Inv h' ∧ fr S_Mod_backX h h' ∧ (kZ = 0 ∧ (h.1 118 0).toInt ≠ 0 ∧ mcl h h' 0 144 144 ∨ kZ = 1 ∧ (h.1 118 1).toInt ≠ 0 ∧ mcl h h' 0 288 144 ∨ (kZ = 0 ∧ (h.1 118 0).toInt = 0 ∨ kZ = 1 ∧ (h.1 118 1).toInt = 0 ∨ kZ < 0 ∨ 1 < kZ) ∧ h' = h))
set_option maxRecDepth 100000 in
theorem c_Mod_backX (h : Hp) (hI : Inv h) (k : Int32) (kZ : Int) (kE : k.toInt = kZ) (w : Int32) (wZ : Int) (wE : w.toInt = wZ) (wK : h.1 116 2 = w) (g : Int32) (gZ : Int) (gE : g.toInt = gZ) (gK : h.1 116 3 = g) : Ct y_Mod_back b_Mod_back 2 (some .int) 3 64 [.ref 116, .int k] h (q_Mod_backX h k kZ w wZ g gZ) := by
  refine ct_ow R_Mod [some (.ref 116), some (.int k)] rfl (by decide) rfl (Nat.le_of_ble_eq_true rfl) ?_
  have f0 : fr S_Mod_backX h h := fr_rf
  have g1 : 2 ≤ wZ ∧ wZ ≤ 4 := inv_at hI wE wK.symm rfl
  have g2 : 2 ≤ gZ ∧ gZ ≤ 4 := inv_at hI gE gK.symm rfl
  refine V_iload_n 1 d_Mod_back_0 rfl rfl ?_
  refine V_i2l d_Mod_back_1 (fun z3 z3e z3E => ?_)
  have z3F : z3.toInt = kZ := z3E.trans kE
  refine V_lconst 0 d_Mod_back_2 (by decide) ?_
  refine V_lconst 1 d_Mod_back_3 (by decide) ?_
  refine N_callSI [.long z3, .long 0, .long 1] [] cs_Mod_95 d_Mod_back_4 rfl (Nat.le_of_ble_eq_true rfl) (by decide) (by decide) (c_Mod_in h z3 kZ z3F 0 0 tl_0 1 1 tl_1) (fun z4 h5 z4Z z4E p6 => ?_)
  obtain ⟨eh5, p6⟩ := p6
  subst eh5
  refine V_if_ne 12 z4E d_Mod_back_7 (by decide) (fun c7 => ?_) (fun c7 => ?_)
  ·
    rcases (by omega : kZ = 0 ∨ kZ = 1) with c8 | c8
    ·
      refine V_aload_n 0 d_Mod_back_12 rfl rfl ?_
      refine V_getR fa_Mod_13 sk_116 rfl d_Mod_back_13 ?_
      refine V_iload_n 1 d_Mod_back_16 rfl rfl ?_
      refine N_zald sk_118 kE (by omega) d_Mod_back_17 (fun z9 z9Z z9E z9e => ?_)
      refine V_if_ne 24 z9E d_Mod_back_18 (by decide) (fun c10 => ?_) (fun c10 => ?_)
      ·
        refine V_aload_n 0 d_Mod_back_24 rfl rfl ?_
        refine V_iconst 0 d_Mod_back_25 (by decide) ?_
        refine V_sipush 144 d_Mod_back_26 (by decide) ?_
        refine V_iload_n 1 d_Mod_back_29 rfl rfl ?_
        refine V_iconst 1 d_Mod_back_30 (by decide) ?_
        refine V_iadd kE tc_1 (by omega) d_Mod_back_31 (fun z11 z11e z11E => ?_)
        refine V_imul tc_144 z11E (by omega) d_Mod_back_32 (fun z12 z12e z12E => ?_)
        refine N_callVV [.int 0, .int z12] [] cv_Mod_317 sk_116 rfl d_Mod_back_33 rfl (Nat.le_of_ble_eq_true rfl) (by decide) (by decide) (c_Mod_copiesX h hI 0 0 tc_0 z12 ((144 * (kZ + 1))) z12E (by omega) (by omega)) (fun h14 p15 => ?_)
        obtain ⟨hI16, fh14, p15⟩ := p15
        have f17 : fr S_Mod_backX h h14 := fr_call f0 fh14 rfl
        refine V_aload_n 0 d_Mod_back_36 rfl rfl ?_
        refine N_callVI [] [] cv_Mod_223 sk_116 rfl d_Mod_back_37 rfl (Nat.le_of_ble_eq_true rfl) (by decide) (by decide) (c_Mod_wells h14 hI16 w wZ wE (kn_call fh14 wK rfl) g gZ gE (kn_call fh14 gK rfl)) (fun z18 h19 z18Z z18E p20 => ?_)
        subst p20
        exact V_iret rfl d_Mod_back_40 ⟨z18, rfl, ⟨hI16, f17, (Or.inl ⟨by omega, (by rw [show h.1 118 0 = z9 from by rw [z9e]; exact congrArg (h.1 118) (by omega), z9E]; omega), (mcl_T (by omega) p15)⟩)⟩⟩
      ·
        refine V_bipush (-2) d_Mod_back_21 (by decide) ?_
        exact V_iret rfl d_Mod_back_23 ⟨(-2), rfl, ⟨hI, f0, (Or.inr (Or.inr ⟨Or.inl ⟨by omega, (by rw [show h.1 118 0 = z9 from by rw [z9e]; exact congrArg (h.1 118) (by omega), z9E]; omega)⟩, rfl⟩))⟩⟩
    ·
      refine V_aload_n 0 d_Mod_back_12 rfl rfl ?_
      refine V_getR fa_Mod_13 sk_116 rfl d_Mod_back_13 ?_
      refine V_iload_n 1 d_Mod_back_16 rfl rfl ?_
      refine N_zald sk_118 kE (by omega) d_Mod_back_17 (fun z21 z21Z z21E z21e => ?_)
      refine V_if_ne 24 z21E d_Mod_back_18 (by decide) (fun c22 => ?_) (fun c22 => ?_)
      ·
        refine V_aload_n 0 d_Mod_back_24 rfl rfl ?_
        refine V_iconst 0 d_Mod_back_25 (by decide) ?_
        refine V_sipush 144 d_Mod_back_26 (by decide) ?_
        refine V_iload_n 1 d_Mod_back_29 rfl rfl ?_
        refine V_iconst 1 d_Mod_back_30 (by decide) ?_
        refine V_iadd kE tc_1 (by omega) d_Mod_back_31 (fun z23 z23e z23E => ?_)
        refine V_imul tc_144 z23E (by omega) d_Mod_back_32 (fun z24 z24e z24E => ?_)
        refine N_callVV [.int 0, .int z24] [] cv_Mod_317 sk_116 rfl d_Mod_back_33 rfl (Nat.le_of_ble_eq_true rfl) (by decide) (by decide) (c_Mod_copiesX h hI 0 0 tc_0 z24 ((144 * (kZ + 1))) z24E (by omega) (by omega)) (fun h26 p27 => ?_)
        obtain ⟨hI28, fh26, p27⟩ := p27
        have f29 : fr S_Mod_backX h h26 := fr_call f0 fh26 rfl
        refine V_aload_n 0 d_Mod_back_36 rfl rfl ?_
        refine N_callVI [] [] cv_Mod_223 sk_116 rfl d_Mod_back_37 rfl (Nat.le_of_ble_eq_true rfl) (by decide) (by decide) (c_Mod_wells h26 hI28 w wZ wE (kn_call fh26 wK rfl) g gZ gE (kn_call fh26 gK rfl)) (fun z30 h31 z30Z z30E p32 => ?_)
        subst p32
        exact V_iret rfl d_Mod_back_40 ⟨z30, rfl, ⟨hI28, f29, (Or.inr (Or.inl ⟨by omega, (by rw [show h.1 118 1 = z21 from by rw [z21e]; exact congrArg (h.1 118) (by omega), z21E]; omega), (mcl_T (by omega) p27)⟩))⟩⟩
      ·
        refine V_bipush (-2) d_Mod_back_21 (by decide) ?_
        exact V_iret rfl d_Mod_back_23 ⟨(-2), rfl, ⟨hI, f0, (Or.inr (Or.inr ⟨Or.inr (Or.inl ⟨by omega, (by rw [show h.1 118 1 = z21 from by rw [z21e]; exact congrArg (h.1 118) (by omega), z21E]; omega)⟩), rfl⟩))⟩⟩
  ·
    refine V_iconst (-1) d_Mod_back_10 (by decide) ?_
    exact V_iret rfl d_Mod_back_11 ⟨(-1), rfl, ⟨hI, f0, (Or.inr (Or.inr ⟨by omega, rfl⟩))⟩⟩
end
section
def S_Mod_wetA : List (Nat × Option Nat) := [(117, none)]
abbrev q_Mod_wetA (h : Hp) (c : Int32) (cZ : Int) (v : Int32) (vZ : Int) (w : Int32) (wZ : Int) (g : Int32) (gZ : Int) : Option Value → Hp → Prop := pInt (fun r h' => Inv h' ∧ fr S_Mod_wetA h h' ∧ (nA h h'))
set_option maxRecDepth 100000 in
theorem c_Mod_wetA (h : Hp) (hI : Inv h) (c : Int32) (cZ : Int) (cE : c.toInt = cZ) (v : Int32) (vZ : Int) (vE : v.toInt = vZ) (w : Int32) (wZ : Int) (wE : w.toInt = wZ) (wK : h.1 116 2 = w) (g : Int32) (gZ : Int) (gE : g.toInt = gZ) (gK : h.1 116 3 = g) : Ct y_Mod_wet b_Mod_wet 3 (some .int) 2 46 [.ref 116, .int c, .int v] h (q_Mod_wetA h c cZ v vZ w wZ g gZ) := by
  refine ct_ow R_Mod [some (.ref 116), some (.int c), some (.int v)] rfl (by decide) rfl (Nat.le_of_ble_eq_true rfl) ?_
  have f0 : fr S_Mod_wetA h h := fr_rf
  have g1 : 2 ≤ wZ ∧ wZ ≤ 4 := inv_at hI wE wK.symm rfl
  have g2 : 2 ≤ gZ ∧ gZ ≤ 4 := inv_at hI gE gK.symm rfl
  refine V_aload_n 0 d_Mod_wet_0 rfl rfl ?_
  refine V_iload_n 1 d_Mod_wet_1 rfl rfl ?_
  refine N_callVI [.int c] [] cv_Mod_200 sk_116 rfl d_Mod_wet_2 rfl (Nat.le_of_ble_eq_true rfl) (by decide) (by decide) (c_Mod_isCellX h hI c cZ cE w wZ wE wK g gZ gE gK) (fun z3 h4 z3Z z3E p5 => ?_)
  obtain ⟨eh4, p5⟩ := p5
  subst eh4
  refine V_if_eq 20 z3E d_Mod_wet_5 (by decide) (fun c6 => ?_) (fun c6 => ?_)
  ·
    refine V_iconst (-1) d_Mod_wet_20 (by decide) ?_
    exact V_iret rfl d_Mod_wet_21 ⟨(-1), rfl, ⟨hI, f0, nA_rf⟩⟩
  ·
    refine V_iload_n 2 d_Mod_wet_8 rfl rfl ?_
    refine V_i2l d_Mod_wet_9 (fun z7 z7e z7E => ?_)
    have z7F : z7.toInt = vZ := z7E.trans vE
    refine V_lconst 0 d_Mod_wet_10 (by decide) ?_
    refine V_ldc2 d_Mod_wet_11 wl_Mod_208 ?_
    refine N_callSI [.long z7, .long 0, .long 9] [] cs_Mod_95 d_Mod_wet_14 rfl (Nat.le_of_ble_eq_true rfl) (by decide) (by decide) (c_Mod_in h z7 vZ z7F 0 0 tl_0 9 9 tl_9) (fun z8 h9 z8Z z8E p10 => ?_)
    obtain ⟨eh9, p10⟩ := p10
    subst eh9
    refine V_if_ne 22 z8E d_Mod_wet_17 (by decide) (fun c11 => ?_) (fun c11 => ?_)
    ·
      refine V_aload_n 0 d_Mod_wet_22 rfl rfl ?_
      refine V_getR fa_Mod_7 sk_116 rfl d_Mod_wet_23 ?_
      refine V_bipush 64 d_Mod_wet_26 (by decide) ?_
      refine V_iload_n 1 d_Mod_wet_28 rfl rfl ?_
      refine V_iadd tc_64 cE (by omega) d_Mod_wet_29 (fun z12 z12e z12E => ?_)
      refine N_iald sk_117 z12E (by omega) d_Mod_wet_30 (fun z13 z13Z z13E z13e => ?_)
      refine V_if_le 39 z13E d_Mod_wet_31 (by decide) (fun c14 => ?_) (fun c14 => ?_)
      ·
        refine V_aload_n 0 d_Mod_wet_39 rfl rfl ?_
        refine V_iconst 0 d_Mod_wet_40 (by decide) ?_
        refine V_iload_n 1 d_Mod_wet_41 rfl rfl ?_
        refine V_iadd tc_0 cE (by omega) d_Mod_wet_42 (fun z15 z15e z15E => ?_)
        refine V_iload_n 2 d_Mod_wet_43 rfl rfl ?_
        refine N_callVI [.int z15, .int v] [] cv_Mod_210 sk_116 rfl d_Mod_wet_44 rfl (Nat.le_of_ble_eq_true rfl) (by decide) (by decide) (c_Mod_becomesX h hI z15 ((0 + cZ)) z15E v vZ vE (by omega) (stOk_lo vE (by omega))) (fun z16 h17 z16Z z16E p18 => ?_)
        obtain ⟨hI19, fh17, p18⟩ := p18
        have f20 : fr S_Mod_wetA h h17 := fr_call f0 fh17 rfl
        exact V_iret rfl d_Mod_wet_47 ⟨z16, rfl, ⟨hI19, f20, (nA_s nA_rf p18.1 (by omega))⟩⟩
      ·
        refine V_bipush (-2) d_Mod_wet_34 (by decide) ?_
        refine V_goto 47 d_Mod_wet_36 (by decide) ?_
        exact V_iret rfl d_Mod_wet_47 ⟨(-2), rfl, ⟨hI, f0, nA_rf⟩⟩
    ·
      refine V_iconst (-1) d_Mod_wet_20 (by decide) ?_
      exact V_iret rfl d_Mod_wet_21 ⟨(-1), rfl, ⟨hI, f0, nA_rf⟩⟩
def S_Mod_fundA : List (Nat × Option Nat) := [(117, none)]
abbrev q_Mod_fundA (h : Hp) (o : Int32) (oZ : Int) (v : Int32) (vZ : Int) : Option Value → Hp → Prop := pInt (fun r h' => Inv h' ∧ fr S_Mod_fundA h h' ∧ (nA h h'))
set_option maxRecDepth 100000 in
theorem c_Mod_fundA (h : Hp) (hI : Inv h) (o : Int32) (oZ : Int) (oE : o.toInt = oZ) (v : Int32) (vZ : Int) (vE : v.toInt = vZ) : Ct y_Mod_fund b_Mod_fund 3 (some .int) 2 45 [.ref 116, .int o, .int v] h (q_Mod_fundA h o oZ v vZ) := by
  refine ct_ow R_Mod [some (.ref 116), some (.int o), some (.int v)] rfl (by decide) rfl (Nat.le_of_ble_eq_true rfl) ?_
  have f0 : fr S_Mod_fundA h h := fr_rf
  refine V_iload_n 1 d_Mod_fund_0 rfl rfl ?_
  refine N_callSI [.int o] [] cs_Mod_205 d_Mod_fund_1 rfl (Nat.le_of_ble_eq_true rfl) (by decide) (by decide) (c_Mod_isOwner h o oZ oE) (fun z1 h2 z1Z z1E p3 => ?_)
  obtain ⟨eh2, p3⟩ := p3
  subst eh2
  refine V_if_eq 31 z1E d_Mod_fund_4 (by decide) (fun c4 => ?_) (fun c4 => ?_)
  ·
    refine V_iconst (-1) d_Mod_fund_31 (by decide) ?_
    exact V_iret rfl d_Mod_fund_32 ⟨(-1), rfl, ⟨hI, f0, nA_rf⟩⟩
  ·
    refine V_iload_n 2 d_Mod_fund_7 rfl rfl ?_
    refine V_i2l d_Mod_fund_8 (fun z5 z5e z5E => ?_)
    have z5F : z5.toInt = vZ := z5E.trans vE
    refine V_lconst 0 d_Mod_fund_9 (by decide) ?_
    refine V_ldc2 d_Mod_fund_10 wl_Mod_215 ?_
    refine N_callSI [.long z5, .long 0, .long 999] [] cs_Mod_95 d_Mod_fund_13 rfl (Nat.le_of_ble_eq_true rfl) (by decide) (by decide) (c_Mod_in h z5 vZ z5F 0 0 tl_0 999 999 tl_999) (fun z6 h7 z6Z z6E p8 => ?_)
    obtain ⟨eh7, p8⟩ := p8
    subst eh7
    refine V_if_eq 31 z6E d_Mod_fund_16 (by decide) (fun c9 => ?_) (fun c9 => ?_)
    ·
      refine V_iconst (-1) d_Mod_fund_31 (by decide) ?_
      exact V_iret rfl d_Mod_fund_32 ⟨(-1), rfl, ⟨hI, f0, nA_rf⟩⟩
    ·
      refine V_aload_n 0 d_Mod_fund_19 rfl rfl ?_
      refine V_bipush 80 d_Mod_fund_20 (by decide) ?_
      refine V_iload_n 1 d_Mod_fund_22 rfl rfl ?_
      refine V_iadd tc_80 oE (by omega) d_Mod_fund_23 (fun z10 z10e z10E => ?_)
      refine V_iload_n 2 d_Mod_fund_24 rfl rfl ?_
      refine N_callVI [.int z10, .int v] [] cv_Mod_210 sk_116 rfl d_Mod_fund_25 rfl (Nat.le_of_ble_eq_true rfl) (by decide) (by decide) (c_Mod_becomesX h hI z10 ((80 + oZ)) z10E v vZ vE (by omega) (stOk_lo vE (by omega))) (fun z11 h12 z11Z z11E p13 => ?_)
      obtain ⟨hI14, fh12, p13⟩ := p13
      have f15 : fr S_Mod_fundA h h12 := fr_call f0 fh12 rfl
      refine V_goto 32 d_Mod_fund_28 (by decide) ?_
      exact V_iret rfl d_Mod_fund_32 ⟨z11, rfl, ⟨hI14, f15, (nA_s nA_rf p13.1 (by omega))⟩⟩
def S_Mod_rainA : List (Nat × Option Nat) := [(117, none)]
abbrev q_Mod_rainA (h : Hp) (v : Int32) (vZ : Int) (w : Int32) (wZ : Int) (g : Int32) (gZ : Int) : Option Value → Hp → Prop := pInt (fun r h' => Inv h' ∧ fr S_Mod_rainA h h' ∧ (nA h h'))
set_option maxRecDepth 100000 in
theorem c_Mod_rainA (h : Hp) (hI : Inv h) (v : Int32) (vZ : Int) (vE : v.toInt = vZ) (w : Int32) (wZ : Int) (wE : w.toInt = wZ) (wK : h.1 116 2 = w) (g : Int32) (gZ : Int) (gE : g.toInt = gZ) (gK : h.1 116 3 = g) : Ct y_Mod_rain b_Mod_rain 4 (some .int) 3 64 [.ref 116, .int v] h (q_Mod_rainA h v vZ w wZ g gZ) := by
  refine ct_ow R_Mod [some (.ref 116), some (.int v), none, none] rfl (by decide) rfl (Nat.le_of_ble_eq_true rfl) ?_
  have f0 : fr S_Mod_rainA h h := fr_rf
  have g1 : 2 ≤ wZ ∧ wZ ≤ 4 := inv_at hI wE wK.symm rfl
  have g2 : 2 ≤ gZ ∧ gZ ≤ 4 := inv_at hI gE gK.symm rfl
  refine V_iload_n 1 d_Mod_rain_0 rfl rfl ?_
  refine V_i2l d_Mod_rain_1 (fun z3 z3e z3E => ?_)
  have z3F : z3.toInt = vZ := z3E.trans vE
  refine V_lconst 0 d_Mod_rain_2 (by decide) ?_
  refine V_ldc2 d_Mod_rain_3 wl_Mod_221 ?_
  refine N_callSI [.long z3, .long 0, .long 8] [] cs_Mod_95 d_Mod_rain_6 rfl (Nat.le_of_ble_eq_true rfl) (by decide) (by decide) (c_Mod_in h z3 vZ z3F 0 0 tl_0 8 8 tl_8) (fun z4 h5 z4Z z4E p6 => ?_)
  obtain ⟨eh5, p6⟩ := p6
  subst eh5
  refine V_if_ne 14 z4E d_Mod_rain_9 (by decide) (fun c7 => ?_) (fun c7 => ?_)
  ·
    refine V_iconst 0 d_Mod_rain_14 (by decide) ?_
    refine V_istore_n 2 [some (.ref 116), some (.int v), some (.int 0), none] d_Mod_rain_15 rfl (by decide) rfl rfl ?_
    have L8 : ∀ (nn : Nat) (v10 : Int32) (v10Z : Int) (h11 : Hp), v10.toInt = v10Z → Inv h11 → fr S_Mod_rainA h h11 → h11.1 116 2 = w → h11.1 116 3 = g → 0 ≤ v10Z ∧ v10Z ≤ 16 → nA h h11 → 16 - v10Z < (nn : Int) → V R_Mod b_Mod_rain 4 (some .int) 3 64 (q_Mod_rainA h v vZ w wZ g gZ) h11 16 [some (.ref 116), some (.int v), some (.int v10), none] [] := by
      intro nn
      induction nn with
      | zero => intro v10 v10Z h11 v10E Ih11 Fh11 K12 K13 q14 q15 hm16; exact absurd hm16 (by omega)
      | succ nn ihL8 =>
        intro v10 v10Z h11 v10E Ih11 Fh11 K12 K13 q14 q15 hm16
        refine V_iload_n 2 d_Mod_rain_16 rfl rfl ?_
        refine V_aload_n 0 d_Mod_rain_17 rfl rfl ?_
        refine N_callVI [] [.int v10] cv_Mod_183 sk_116 rfl d_Mod_rain_18 rfl (Nat.le_of_ble_eq_true rfl) (by decide) (by decide) (c_Mod_cellMany h11 Ih11 w wZ wE K12 g gZ gE K13) (fun z17 h18 z17Z z17E p19 => ?_)
        obtain ⟨eh18, p19⟩ := p19
        subst eh18
        refine V_icmp_ge 69 v10E z17E d_Mod_rain_21 (by decide) (fun c20 => ?_) (fun c20 => ?_)
        ·
          refine V_aload_n 0 d_Mod_rain_69 rfl rfl ?_
          refine N_callVI [] [] cv_Mod_223 sk_116 rfl d_Mod_rain_70 rfl (Nat.le_of_ble_eq_true rfl) (by decide) (by decide) (c_Mod_wells h11 Ih11 w wZ wE K12 g gZ gE K13) (fun z21 h22 z21Z z21E p23 => ?_)
          subst p23
          exact V_iret rfl d_Mod_rain_73 ⟨z21, rfl, ⟨Ih11, Fh11, (by assumption)⟩⟩
        ·
          refine V_aload_n 0 d_Mod_rain_24 rfl rfl ?_
          refine V_getR fa_Mod_7 sk_116 rfl d_Mod_rain_25 ?_
          refine V_iconst 0 d_Mod_rain_28 (by decide) ?_
          refine V_iload_n 2 d_Mod_rain_29 rfl rfl ?_
          refine V_iadd tc_0 v10E (by omega) d_Mod_rain_30 (fun z24 z24e z24E => ?_)
          refine N_iald sk_117 z24E (by omega) d_Mod_rain_31 (fun z25 z25Z z25E z25e => ?_)
          refine V_istore_n 3 [some (.ref 116), some (.int v), some (.int v10), some (.int z25)] d_Mod_rain_32 rfl (by decide) rfl rfl ?_
          refine V_aload_n 0 d_Mod_rain_33 rfl rfl ?_
          refine V_getR fa_Mod_7 sk_116 rfl d_Mod_rain_34 ?_
          refine V_iconst 0 d_Mod_rain_37 (by decide) ?_
          refine V_iload_n 2 d_Mod_rain_38 rfl rfl ?_
          refine V_iadd tc_0 v10E (by omega) d_Mod_rain_39 (fun z26 z26e z26E => ?_)
          refine V_iload_n 3 d_Mod_rain_40 rfl rfl ?_
          refine V_if_ne 48 z25E d_Mod_rain_41 (by decide) (fun c27 => ?_) (fun c27 => ?_)
          ·
            refine V_iload_n 3 d_Mod_rain_48 rfl rfl ?_
            refine V_iload_n 1 d_Mod_rain_49 rfl rfl ?_
            refine N_isubw d_Mod_rain_50 (fun z28 z28Z z28E z28e => ?_)
            refine V_iconst 1 d_Mod_rain_51 (by decide) ?_
            refine V_icmp_ge 59 z28E tc_1 d_Mod_rain_52 (by decide) (fun c29 => ?_) (fun c29 => ?_)
            ·
              refine V_iload_n 3 d_Mod_rain_59 rfl rfl ?_
              refine V_iload_n 1 d_Mod_rain_60 rfl rfl ?_
              refine N_isubw d_Mod_rain_61 (fun z30 z30Z z30E z30e => ?_)
              refine N_iast sk_117 z26E (by omega) d_Mod_rain_62 (fun h31 eh31 => ?_)
              have hI32 : Inv h31 := inv_full Ih11 eh31 (st_lo (by omega))
              have f33 : fr S_Mod_rainA h h31 := fr_put Fh11 eh31 rfl
              obtain ⟨z34, z34E, z34e⟩ : ∃ y : Int32, y.toInt = v10Z + 1 ∧ y = v10 + Int32.ofInt 1 := ⟨_, ti_add v10E (by decide) (by omega), rfl⟩
              refine V_iinc 2 [some (.ref 116), some (.int v), some (.int z34), some (.int z25)] d_Mod_rain_63 rfl z34e.symm (by decide) rfl rfl ?_
              refine V_goto 16 d_Mod_rain_66 (by decide) ?_
              refine V_drop 3 [some (.ref 116), some (.int v), some (.int z34), none] rfl ?_
              exact ihL8 z34 ((v10Z + 1)) h31 z34E hI32 f33 (kn_ne eh31 K12 (by decide)) (kn_ne eh31 K13 (by decide)) (by omega) (nA_s (by assumption) eh31 (by omega)) (by omega)
            ·
              refine V_iconst 1 d_Mod_rain_55 (by decide) ?_
              refine V_goto 62 d_Mod_rain_56 (by decide) ?_
              refine N_iast sk_117 z26E (by omega) d_Mod_rain_62 (fun h35 eh35 => ?_)
              have hI36 : Inv h35 := inv_full Ih11 eh35 (st_lo (by omega))
              have f37 : fr S_Mod_rainA h h35 := fr_put Fh11 eh35 rfl
              obtain ⟨z38, z38E, z38e⟩ : ∃ y : Int32, y.toInt = v10Z + 1 ∧ y = v10 + Int32.ofInt 1 := ⟨_, ti_add v10E (by decide) (by omega), rfl⟩
              refine V_iinc 2 [some (.ref 116), some (.int v), some (.int z38), some (.int z25)] d_Mod_rain_63 rfl z38e.symm (by decide) rfl rfl ?_
              refine V_goto 16 d_Mod_rain_66 (by decide) ?_
              refine V_drop 3 [some (.ref 116), some (.int v), some (.int z38), none] rfl ?_
              exact ihL8 z38 ((v10Z + 1)) h35 z38E hI36 f37 (kn_ne eh35 K12 (by decide)) (kn_ne eh35 K13 (by decide)) (by omega) (nA_s (by assumption) eh35 (by omega)) (by omega)
          ·
            refine V_iconst 0 d_Mod_rain_44 (by decide) ?_
            refine V_goto 62 d_Mod_rain_45 (by decide) ?_
            refine N_iast sk_117 z26E (by omega) d_Mod_rain_62 (fun h39 eh39 => ?_)
            have hI40 : Inv h39 := inv_full Ih11 eh39 (st_lo (by omega))
            have f41 : fr S_Mod_rainA h h39 := fr_put Fh11 eh39 rfl
            obtain ⟨z42, z42E, z42e⟩ : ∃ y : Int32, y.toInt = v10Z + 1 ∧ y = v10 + Int32.ofInt 1 := ⟨_, ti_add v10E (by decide) (by omega), rfl⟩
            refine V_iinc 2 [some (.ref 116), some (.int v), some (.int z42), some (.int z25)] d_Mod_rain_63 rfl z42e.symm (by decide) rfl rfl ?_
            refine V_goto 16 d_Mod_rain_66 (by decide) ?_
            refine V_drop 3 [some (.ref 116), some (.int v), some (.int z42), none] rfl ?_
            exact ihL8 z42 ((v10Z + 1)) h39 z42E hI40 f41 (kn_ne eh39 K12 (by decide)) (kn_ne eh39 K13 (by decide)) (by omega) (nA_s (by assumption) eh39 (by omega)) (by omega)
    exact L8 (Int.toNat ((16 - 0 : Int) + 1)) 0 0 h tc_0 hI f0 wK gK (by omega) nA_rf (by omega)
  ·
    refine V_iconst (-1) d_Mod_rain_12 (by decide) ?_
    exact V_iret rfl d_Mod_rain_13 ⟨(-1), rfl, ⟨hI, f0, nA_rf⟩⟩
def S_Mod_boreA : List (Nat × Option Nat) := [(117, none)]
abbrev q_Mod_boreA (h : Hp) (o : Int32) (oZ : Int) (c : Int32) (cZ : Int) (d : Int32) (dZ : Int) (w : Int32) (wZ : Int) (g : Int32) (gZ : Int) : Option Value → Hp → Prop := pInt (fun r h' => Inv h' ∧ fr S_Mod_boreA h h' ∧ (nA h h'))
set_option maxRecDepth 100000 in
theorem c_Mod_boreA (h : Hp) (hI : Inv h) (o : Int32) (oZ : Int) (oE : o.toInt = oZ) (c : Int32) (cZ : Int) (cE : c.toInt = cZ) (d : Int32) (dZ : Int) (dE : d.toInt = dZ) (w : Int32) (wZ : Int) (wE : w.toInt = wZ) (wK : h.1 116 2 = w) (g : Int32) (gZ : Int) (gE : g.toInt = gZ) (gK : h.1 116 3 = g) : Ct y_Mod_bore b_Mod_bore 9 (some .int) 2 46 [.ref 116, .int o, .int c, .int d] h (q_Mod_boreA h o oZ c cZ d dZ w wZ g gZ) := by
  refine ct_ow R_Mod [some (.ref 116), some (.int o), some (.int c), some (.int d), none, none, none, none, none] rfl (by decide) rfl (Nat.le_of_ble_eq_true rfl) ?_
  have f0 : fr S_Mod_boreA h h := fr_rf
  have g1 : 2 ≤ wZ ∧ wZ ≤ 4 := inv_at hI wE wK.symm rfl
  have g2 : 2 ≤ gZ ∧ gZ ≤ 4 := inv_at hI gE gK.symm rfl
  refine V_iload_n 1 d_Mod_bore_0 rfl rfl ?_
  refine N_callSI [.int o] [] cs_Mod_205 d_Mod_bore_1 rfl (Nat.le_of_ble_eq_true rfl) (by decide) (by decide) (c_Mod_isOwner h o oZ oE) (fun z3 h4 z3Z z3E p5 => ?_)
  obtain ⟨eh4, p5⟩ := p5
  subst eh4
  refine V_if_eq 27 z3E d_Mod_bore_4 (by decide) (fun c6 => ?_) (fun c6 => ?_)
  ·
    refine V_iconst (-1) d_Mod_bore_27 (by decide) ?_
    exact V_iret rfl d_Mod_bore_28 ⟨(-1), rfl, ⟨hI, f0, nA_rf⟩⟩
  ·
    refine V_aload_n 0 d_Mod_bore_7 rfl rfl ?_
    refine V_iload_n 2 d_Mod_bore_8 rfl rfl ?_
    refine N_callVI [.int c] [] cv_Mod_200 sk_116 rfl d_Mod_bore_9 rfl (Nat.le_of_ble_eq_true rfl) (by decide) (by decide) (c_Mod_isCellX h hI c cZ cE w wZ wE wK g gZ gE gK) (fun z7 h8 z7Z z7E p9 => ?_)
    obtain ⟨eh8, p9⟩ := p9
    subst eh8
    refine V_if_eq 27 z7E d_Mod_bore_12 (by decide) (fun c10 => ?_) (fun c10 => ?_)
    ·
      refine V_iconst (-1) d_Mod_bore_27 (by decide) ?_
      exact V_iret rfl d_Mod_bore_28 ⟨(-1), rfl, ⟨hI, f0, nA_rf⟩⟩
    ·
      refine V_iload_n 3 d_Mod_bore_15 rfl rfl ?_
      refine V_i2l d_Mod_bore_16 (fun z11 z11e z11E => ?_)
      have z11F : z11.toInt = dZ := z11E.trans dE
      refine V_lconst 1 d_Mod_bore_17 (by decide) ?_
      refine V_ldc2 d_Mod_bore_18 wl_Mod_208 ?_
      refine N_callSI [.long z11, .long 1, .long 9] [] cs_Mod_95 d_Mod_bore_21 rfl (Nat.le_of_ble_eq_true rfl) (by decide) (by decide) (c_Mod_in h z11 dZ z11F 1 1 tl_1 9 9 tl_9) (fun z12 h13 z12Z z12E p14 => ?_)
      obtain ⟨eh13, p14⟩ := p14
      subst eh13
      refine V_if_ne 29 z12E d_Mod_bore_24 (by decide) (fun c15 => ?_) (fun c15 => ?_)
      ·
        have J16 : ∀ (v18 : Int32) (v18Z : Int), v18.toInt = v18Z → V R_Mod b_Mod_bore 9 (some .int) 2 46 (q_Mod_boreA h o oZ c cZ d dZ w wZ g gZ) h 59 [some (.ref 116), some (.int o), some (.int c), some (.int d), some (.int v18), none, none, none, none] [] := by
          intro v18 v18Z v18E
          refine V_aload_n 0 d_Mod_bore_59 rfl rfl ?_
          refine V_getR fa_Mod_7 sk_116 rfl d_Mod_bore_60 ?_
          refine V_bipush 64 d_Mod_bore_63 (by decide) ?_
          refine V_iload_n 2 d_Mod_bore_65 rfl rfl ?_
          refine V_iadd tc_64 cE (by omega) d_Mod_bore_66 (fun z19 z19e z19E => ?_)
          refine N_iald sk_117 z19E (by omega) d_Mod_bore_67 (fun z20 z20Z z20E z20e => ?_)
          refine V_iload d_Mod_bore_68 rfl ?_
          refine N_iaddw d_Mod_bore_70 (fun z21 z21Z z21E z21e => ?_)
          refine V_istore 5 [some (.ref 116), some (.int o), some (.int c), some (.int d), some (.int v18), some (.int z21), none, none, none] d_Mod_bore_71 (by decide) rfl rfl ?_
          refine V_aload_n 0 d_Mod_bore_73 rfl rfl ?_
          refine V_getR fa_Mod_7 sk_116 rfl d_Mod_bore_74 ?_
          refine V_bipush 80 d_Mod_bore_77 (by decide) ?_
          refine V_iload_n 1 d_Mod_bore_79 rfl rfl ?_
          refine V_iadd tc_80 oE (by omega) d_Mod_bore_80 (fun z22 z22e z22E => ?_)
          refine N_iald sk_117 z22E (by omega) d_Mod_bore_81 (fun z23 z23Z z23E z23e => ?_)
          refine V_aload_n 0 d_Mod_bore_82 rfl rfl ?_
          refine N_getI fa_Mod_87 sk_116 rfl d_Mod_bore_83 (fun z24 z24Z z24E z24e => ?_)
          refine V_iload d_Mod_bore_86 rfl ?_
          refine N_imulw d_Mod_bore_88 (fun z25 z25Z z25E z25e => ?_)
          refine N_isubw d_Mod_bore_89 (fun z26 z26Z z26E z26e => ?_)
          refine V_istore 6 [some (.ref 116), some (.int o), some (.int c), some (.int d), some (.int v18), some (.int z21), some (.int z26), none, none] d_Mod_bore_90 (by decide) rfl rfl ?_
          have J27 : ∀ (v29 : Int32) (v29Z : Int), v29.toInt = v29Z → V R_Mod b_Mod_bore 9 (some .int) 2 46 (q_Mod_boreA h o oZ c cZ d dZ w wZ g gZ) h 123 [some (.ref 116), some (.int o), some (.int c), some (.int d), some (.int v18), some (.int z21), some (.int z26), some (.int v29), none] [] := by
            intro v29 v29Z v29E
            have J30 : ∀ (v32 : Int32) (v32Z : Int), v32.toInt = v32Z → V R_Mod b_Mod_bore 9 (some .int) 2 46 (q_Mod_boreA h o oZ c cZ d dZ w wZ g gZ) h 142 [some (.ref 116), some (.int o), some (.int c), some (.int d), some (.int v18), some (.int z21), some (.int z26), some (.int v29), some (.int v32)] [] := by
              intro v32 v32Z v32E
              refine V_aload_n 0 d_Mod_bore_142 rfl rfl ?_
              refine V_getR fa_Mod_7 sk_116 rfl d_Mod_bore_143 ?_
              refine V_bipush 48 d_Mod_bore_146 (by decide) ?_
              refine V_iload_n 2 d_Mod_bore_148 rfl rfl ?_
              refine V_iadd tc_48 cE (by omega) d_Mod_bore_149 (fun z33 z33e z33E => ?_)
              refine N_iald sk_117 z33E (by omega) d_Mod_bore_150 (fun z34 z34Z z34E z34e => ?_)
              refine V_iload_n 1 d_Mod_bore_151 rfl rfl ?_
              refine V_icmp_ne 168 z34E oE d_Mod_bore_152 (by decide) (fun c35 => ?_) (fun c35 => ?_)
              ·
                refine V_bipush (-2) d_Mod_bore_168 (by decide) ?_
                exact V_iret rfl d_Mod_bore_170 ⟨(-2), rfl, ⟨hI, f0, nA_rf⟩⟩
              ·
                refine V_iload d_Mod_bore_155 rfl ?_
                refine V_if_lt 168 z26E d_Mod_bore_157 (by decide) (fun c36 => ?_) (fun c36 => ?_)
                ·
                  refine V_bipush (-2) d_Mod_bore_168 (by decide) ?_
                  exact V_iret rfl d_Mod_bore_170 ⟨(-2), rfl, ⟨hI, f0, nA_rf⟩⟩
                ·
                  refine V_iload d_Mod_bore_160 rfl ?_
                  refine V_sipush 999 d_Mod_bore_162 (by decide) ?_
                  refine V_icmp_le 171 v32E tc_999 d_Mod_bore_165 (by decide) (fun c37 => ?_) (fun c37 => ?_)
                  ·
                    refine V_aload_n 0 d_Mod_bore_171 rfl rfl ?_
                    refine V_getR fa_Mod_7 sk_116 rfl d_Mod_bore_172 ?_
                    refine V_bipush 80 d_Mod_bore_175 (by decide) ?_
                    refine V_iload_n 1 d_Mod_bore_177 rfl rfl ?_
                    refine V_iadd tc_80 oE (by omega) d_Mod_bore_178 (fun z38 z38e z38E => ?_)
                    refine V_iload d_Mod_bore_179 rfl ?_
                    refine N_iast sk_117 z38E (by omega) d_Mod_bore_181 (fun h39 eh39 => ?_)
                    have hI40 : Inv h39 := inv_full hI eh39 (st_lo (by omega))
                    have f41 : fr S_Mod_boreA h h39 := fr_put f0 eh39 rfl
                    refine V_aload_n 0 d_Mod_bore_182 rfl rfl ?_
                    refine V_getR fa_Mod_7 sk_116 rfl d_Mod_bore_183 ?_
                    refine V_bipush 64 d_Mod_bore_186 (by decide) ?_
                    refine V_iload_n 2 d_Mod_bore_188 rfl rfl ?_
                    refine V_iadd tc_64 cE (by omega) d_Mod_bore_189 (fun z42 z42e z42E => ?_)
                    refine V_iload d_Mod_bore_190 rfl ?_
                    refine N_iast sk_117 z42E (by omega) d_Mod_bore_192 (fun h43 eh43 => ?_)
                    have hI44 : Inv h43 := inv_full hI40 eh43 (st_lo (by omega))
                    have f45 : fr S_Mod_boreA h h43 := fr_put f41 eh43 rfl
                    refine V_aload_n 0 d_Mod_bore_193 rfl rfl ?_
                    refine V_iload_n 2 d_Mod_bore_194 rfl rfl ?_
                    refine N_callVI [.int c] [] cv_Mod_192 sk_116 rfl d_Mod_bore_195 rfl (Nat.le_of_ble_eq_true rfl) (by decide) (by decide) (c_Mod_isWell h43 hI44 c cZ cE (by omega)) (fun z46 h47 z46Z z46E p48 => ?_)
                    obtain ⟨eh47, p48⟩ := p48
                    subst eh47
                    refine N_callSI [.int z46] [] cs_Mod_196 d_Mod_bore_198 rfl (Nat.le_of_ble_eq_true rfl) (by decide) (by decide) (c_Mod_flag h43 z46 z46Z z46E) (fun z49 h50 z49Z z49E p51 => ?_)
                    obtain ⟨eh50, p51⟩ := p51
                    subst eh50
                    exact V_iret rfl d_Mod_bore_201 ⟨z49, rfl, ⟨hI44, f45, (nA_s (nA_s nA_rf eh39 (by omega)) eh43 (by omega))⟩⟩
                  ·
                    refine V_bipush (-2) d_Mod_bore_168 (by decide) ?_
                    exact V_iret rfl d_Mod_bore_170 ⟨(-2), rfl, ⟨hI, f0, nA_rf⟩⟩
            refine V_iload d_Mod_bore_123 rfl ?_
            refine V_if_eq 138 v29E d_Mod_bore_125 (by decide) (fun c52 => ?_) (fun c52 => ?_)
            ·
              refine V_iload d_Mod_bore_138 rfl ?_
              refine V_istore 8 [some (.ref 116), some (.int o), some (.int c), some (.int d), some (.int v18), some (.int z21), some (.int z26), some (.int v29), some (.int z26)] d_Mod_bore_140 (by decide) rfl rfl ?_
              exact J30 z26 z26Z z26E
            ·
              refine V_iload d_Mod_bore_128 rfl ?_
              refine V_aload_n 0 d_Mod_bore_130 rfl rfl ?_
              refine N_getI fa_Mod_90 sk_116 rfl d_Mod_bore_131 (fun z53 z53Z z53E z53e => ?_)
              refine N_iaddw d_Mod_bore_134 (fun z54 z54Z z54E z54e => ?_)
              refine V_goto 140 d_Mod_bore_135 (by decide) ?_
              refine V_istore 8 [some (.ref 116), some (.int o), some (.int c), some (.int d), some (.int v18), some (.int z21), some (.int z26), some (.int v29), some (.int z54)] d_Mod_bore_140 (by decide) rfl rfl ?_
              exact J30 z54 z54Z z54E
          refine V_aload_n 0 d_Mod_bore_92 rfl rfl ?_
          refine V_iload_n 2 d_Mod_bore_93 rfl rfl ?_
          refine N_callVI [.int c] [] cv_Mod_192 sk_116 rfl d_Mod_bore_94 rfl (Nat.le_of_ble_eq_true rfl) (by decide) (by decide) (c_Mod_isWell h hI c cZ cE (by omega)) (fun z55 h56 z55Z z55E p57 => ?_)
          obtain ⟨eh56, p57⟩ := p57
          subst eh56
          refine V_if_ne 120 z55E d_Mod_bore_97 (by decide) (fun c58 => ?_) (fun c58 => ?_)
          ·
            refine V_iconst 0 d_Mod_bore_120 (by decide) ?_
            refine V_istore 7 [some (.ref 116), some (.int o), some (.int c), some (.int d), some (.int v18), some (.int z21), some (.int z26), some (.int 0), none] d_Mod_bore_121 (by decide) rfl rfl ?_
            exact J27 0 0 tc_0
          ·
            refine V_aload_n 0 d_Mod_bore_100 rfl rfl ?_
            refine V_getR fa_Mod_7 sk_116 rfl d_Mod_bore_101 ?_
            refine V_iconst 0 d_Mod_bore_104 (by decide) ?_
            refine V_iload_n 2 d_Mod_bore_105 rfl rfl ?_
            refine V_iadd tc_0 cE (by omega) d_Mod_bore_106 (fun z59 z59e z59E => ?_)
            refine N_iald sk_117 z59E (by omega) d_Mod_bore_107 (fun z60 z60Z z60E z60e => ?_)
            refine V_iload d_Mod_bore_108 rfl ?_
            refine N_callSI [.int z60, .int z21] [] cs_Mod_188 d_Mod_bore_110 rfl (Nat.le_of_ble_eq_true rfl) (by decide) (by decide) (c_Mod_isWellBy h z60 z60Z z60E z21 z21Z z21E) (fun z61 h62 z61Z z61E p63 => ?_)
            obtain ⟨eh62, p63⟩ := p63
            subst eh62
            refine V_if_eq 120 z61E d_Mod_bore_113 (by decide) (fun c64 => ?_) (fun c64 => ?_)
            ·
              refine V_iconst 0 d_Mod_bore_120 (by decide) ?_
              refine V_istore 7 [some (.ref 116), some (.int o), some (.int c), some (.int d), some (.int v18), some (.int z21), some (.int z26), some (.int 0), none] d_Mod_bore_121 (by decide) rfl rfl ?_
              exact J27 0 0 tc_0
            ·
              refine V_iconst 1 d_Mod_bore_116 (by decide) ?_
              refine V_goto 121 d_Mod_bore_117 (by decide) ?_
              refine V_istore 7 [some (.ref 116), some (.int o), some (.int c), some (.int d), some (.int v18), some (.int z21), some (.int z26), some (.int 1), none] d_Mod_bore_121 (by decide) rfl rfl ?_
              exact J27 1 1 tc_1
        refine V_iload_n 3 d_Mod_bore_29 rfl rfl ?_
        refine V_aload_n 0 d_Mod_bore_30 rfl rfl ?_
        refine V_getR fa_Mod_7 sk_116 rfl d_Mod_bore_31 ?_
        refine V_bipush 64 d_Mod_bore_34 (by decide) ?_
        refine V_iload_n 2 d_Mod_bore_36 rfl rfl ?_
        refine V_iadd tc_64 cE (by omega) d_Mod_bore_37 (fun z65 z65e z65E => ?_)
        refine N_iald sk_117 z65E (by omega) d_Mod_bore_38 (fun z66 z66Z z66E z66e => ?_)
        refine V_icmp_le 56 dE z66E d_Mod_bore_39 (by decide) (fun c67 => ?_) (fun c67 => ?_)
        ·
          refine V_iconst 0 d_Mod_bore_56 (by decide) ?_
          refine V_istore 4 [some (.ref 116), some (.int o), some (.int c), some (.int d), some (.int 0), none, none, none, none] d_Mod_bore_57 (by decide) rfl rfl ?_
          exact J16 0 0 tc_0
        ·
          refine V_iload_n 3 d_Mod_bore_42 rfl rfl ?_
          refine V_aload_n 0 d_Mod_bore_43 rfl rfl ?_
          refine V_getR fa_Mod_7 sk_116 rfl d_Mod_bore_44 ?_
          refine V_bipush 64 d_Mod_bore_47 (by decide) ?_
          refine V_iload_n 2 d_Mod_bore_49 rfl rfl ?_
          refine V_iadd tc_64 cE (by omega) d_Mod_bore_50 (fun z68 z68e z68E => ?_)
          refine N_iald sk_117 z68E (by omega) d_Mod_bore_51 (fun z69 z69Z z69E z69e => ?_)
          refine N_isubw d_Mod_bore_52 (fun z70 z70Z z70E z70e => ?_)
          refine V_goto 57 d_Mod_bore_53 (by decide) ?_
          refine V_istore 4 [some (.ref 116), some (.int o), some (.int c), some (.int d), some (.int z70), none, none, none, none] d_Mod_bore_57 (by decide) rfl rfl ?_
          exact J16 z70 z70Z z70E
      ·
        refine V_iconst (-1) d_Mod_bore_27 (by decide) ?_
        exact V_iret rfl d_Mod_bore_28 ⟨(-1), rfl, ⟨hI, f0, nA_rf⟩⟩
def S_Mod_readA : List (Nat × Option Nat) := [(117, none), (131, none), (116, some 35)]
abbrev q_Mod_readA (h : Hp) (k : Int32) (kZ : Int) (l : Int32) (lZ : Int) (f : Int32) (fZ : Int) (n : Int32) (nZ : Int) (w : Int32) (wZ : Int) (g : Int32) (gZ : Int) : Option Value → Hp → Prop := pInt (fun r h' => Inv h' ∧ fr S_Mod_readA h h' ∧ (nA h h'))
set_option maxRecDepth 100000 in
theorem c_Mod_readA (h : Hp) (hI : Inv h) (k : Int32) (kZ : Int) (kE : k.toInt = kZ) (l : Int32) (lZ : Int) (lE : l.toInt = lZ) (f : Int32) (fZ : Int) (fE : f.toInt = fZ) (n : Int32) (nZ : Int) (nE : n.toInt = nZ) (w : Int32) (wZ : Int) (wE : w.toInt = wZ) (wK : h.1 116 2 = w) (g : Int32) (gZ : Int) (gE : g.toInt = gZ) (gK : h.1 116 3 = g) : Ct y_Mod_read b_Mod_read 11 (some .int) 3 74 [.ref 116, .int k, .int l, .int f, .int n] h (q_Mod_readA h k kZ l lZ f fZ n nZ w wZ g gZ) := by
  refine ct_ow R_Mod [some (.ref 116), some (.int k), some (.int l), some (.int f), some (.int n), none, none, none, none, none, none] rfl (by decide) rfl (Nat.le_of_ble_eq_true rfl) ?_
  have f0 : fr S_Mod_readA h h := fr_rf
  have g1 : 2 ≤ wZ ∧ wZ ≤ 4 := inv_at hI wE wK.symm rfl
  have g2 : 2 ≤ gZ ∧ gZ ≤ 4 := inv_at hI gE gK.symm rfl
  obtain ⟨sv, svZ, svE, svK⟩ : ∃ (y : Int32) (Y : Int), y.toInt = Y ∧ y = h.1 129 kZ.toNat := ⟨_, _, rfl, rfl⟩
  have svB : 0 ≤ svZ ∧ svZ ≤ 40 := inv_at hI svE svK rfl
  have fB := And.intro (ti_lo f) (ti_hi f)
  rw [fE] at fB
  refine V_iload_n 1 d_Mod_read_0 rfl rfl ?_
  refine V_iload_n 2 d_Mod_read_1 rfl rfl ?_
  refine N_callSI [.int k, .int l] [] cs_Mod_322 d_Mod_read_2 rfl (Nat.le_of_ble_eq_true rfl) (by decide) (by decide) (c_Mod_isSheet h k kZ kE l lZ lE) (fun z3 h4 z3Z z3E p5 => ?_)
  obtain ⟨eh4, p5⟩ := p5
  subst eh4
  refine V_if_eq 21 z3E d_Mod_read_5 (by decide) (fun c6 => ?_) (fun c6 => ?_)
  ·
    refine V_iconst (-1) d_Mod_read_21 (by decide) ?_
    exact V_iret rfl d_Mod_read_22 ⟨(-1), rfl, ⟨hI, f0, nA_rf⟩⟩
  ·
    refine V_iload d_Mod_read_8 rfl ?_
    refine V_i2l d_Mod_read_10 (fun z7 z7e z7E => ?_)
    have z7F : z7.toInt = nZ := z7E.trans nE
    refine V_lconst 0 d_Mod_read_11 (by decide) ?_
    refine V_ldc2 d_Mod_read_12 wl_Mod_275 ?_
    refine N_callSI [.long z7, .long 0, .long 13] [] cs_Mod_95 d_Mod_read_15 rfl (Nat.le_of_ble_eq_true rfl) (by decide) (by decide) (c_Mod_in h z7 nZ z7F 0 0 tl_0 13 13 tl_13) (fun z8 h9 z8Z z8E p10 => ?_)
    obtain ⟨eh9, p10⟩ := p10
    subst eh9
    refine V_if_ne 23 z8E d_Mod_read_18 (by decide) (fun c11 => ?_) (fun c11 => ?_)
    ·
      refine V_iconst 0 d_Mod_read_23 (by decide) ?_
      refine V_istore 5 [some (.ref 116), some (.int k), some (.int l), some (.int f), some (.int n), some (.int 0), none, none, none, none, none] d_Mod_read_24 (by decide) rfl rfl ?_
      have L12 : ∀ (nn : Nat) (v14 : Int32) (v14Z : Int) (h15 : Hp), v14.toInt = v14Z → Inv h15 → fr S_Mod_readA h h15 → h15.1 116 2 = w → h15.1 116 3 = g → 0 ≤ v14Z ∧ v14Z ≤ 20 → nA h h15 → 20 - v14Z < (nn : Int) → V R_Mod b_Mod_read 11 (some .int) 3 74 (q_Mod_readA h k kZ l lZ f fZ n nZ w wZ g gZ) h15 26 [some (.ref 116), some (.int k), some (.int l), some (.int f), some (.int n), some (.int v14), none, none, none, none, none] [] := by
        intro nn
        induction nn with
        | zero => intro v14 v14Z h15 v14E Ih15 Fh15 K16 K17 q18 q19 hm20; exact absurd hm20 (by omega)
        | succ nn ihL12 =>
          intro v14 v14Z h15 v14E Ih15 Fh15 K16 K17 q18 q19 hm20
          have na9 : nA h h15 := by assumption
          refine V_iload d_Mod_read_26 rfl ?_
          refine V_bipush 20 d_Mod_read_28 (by decide) ?_
          refine V_icmp_ge 56 v14E tc_20 d_Mod_read_30 (by decide) (fun c21 => ?_) (fun c21 => ?_)
          ·
            refine V_iconst 0 d_Mod_read_56 (by decide) ?_
            refine V_istore 5 [some (.ref 116), some (.int k), some (.int l), some (.int f), some (.int n), some (.int 0), none, none, none, none, none] d_Mod_read_57 (by decide) rfl rfl ?_
            refine V_iconst 0 d_Mod_read_59 (by decide) ?_
            refine V_istore 6 [some (.ref 116), some (.int k), some (.int l), some (.int f), some (.int n), some (.int 0), some (.int 0), none, none, none, none] d_Mod_read_60 (by decide) rfl rfl ?_
            refine V_iconst 0 d_Mod_read_62 (by decide) ?_
            refine V_istore 7 [some (.ref 116), some (.int k), some (.int l), some (.int f), some (.int n), some (.int 0), some (.int 0), some (.int 0), none, none, none] d_Mod_read_63 (by decide) rfl rfl ?_
            have L22 : ∀ (nn : Nat) (v24 : Int32) (v24Z : Int) (v25 : Int32) (v25Z : Int) (v26 : Int32) (v26Z : Int) (h27 : Hp), v24.toInt = v24Z → v25.toInt = v25Z → v26.toInt = v26Z → Inv h27 → fr S_Mod_readA h h27 → h27.1 116 2 = w → h27.1 116 3 = g → 0 ≤ v26Z ∧ v26Z ≤ nZ → 0 ≤ v25Z ∧ v25Z ≤ v26Z → nA h h27 → nZ - v26Z < (nn : Int) → V R_Mod b_Mod_read 11 (some .int) 3 74 (q_Mod_readA h k kZ l lZ f fZ n nZ w wZ g gZ) h27 65 [some (.ref 116), some (.int k), some (.int l), some (.int f), some (.int n), some (.int v24), some (.int v25), some (.int v26), none, none, none] [] := by
              intro nn
              induction nn with
              | zero => intro v24 v24Z v25 v25Z v26 v26Z h27 v24E v25E v26E Ih27 Fh27 K28 K29 q30 q31 q32 hm33; exact absurd hm33 (by omega)
              | succ nn ihL22 =>
                intro v24 v24Z v25 v25Z v26 v26Z h27 v24E v25E v26E Ih27 Fh27 K28 K29 q30 q31 q32 hm33
                have na9 : nA h h27 := by assumption
                refine V_iload d_Mod_read_65 rfl ?_
                refine V_iload d_Mod_read_67 rfl ?_
                refine V_icmp_ge 265 v26E nE d_Mod_read_69 (by decide) (fun c34 => ?_) (fun c34 => ?_)
                ·
                  refine V_aload_n 0 d_Mod_read_265 rfl rfl ?_
                  refine V_iload d_Mod_read_266 rfl ?_
                  refine N_putI fp_Mod_328 sk_116 rfl d_Mod_read_268 (fun h35 eh35 => ?_)
                  have hI36 : Inv h35 := inv_full Ih27 eh35 rfl
                  have f37 : fr S_Mod_readA h h35 := fr_put Fh27 eh35 rfl
                  have N38 : nA h h35 := nA_s na9 eh35 (by omega)
                  refine V_iload d_Mod_read_271 rfl ?_
                  exact V_iret rfl d_Mod_read_273 ⟨v25, rfl, ⟨hI36, f37, N38⟩⟩
                ·
                  refine V_iload d_Mod_read_72 rfl ?_
                  refine V_if_ne 265 v24E d_Mod_read_74 (by decide) (fun c39 => ?_) (fun c39 => ?_)
                  ·
                    refine V_aload_n 0 d_Mod_read_265 rfl rfl ?_
                    refine V_iload d_Mod_read_266 rfl ?_
                    refine N_putI fp_Mod_328 sk_116 rfl d_Mod_read_268 (fun h40 eh40 => ?_)
                    have hI41 : Inv h40 := inv_full Ih27 eh40 rfl
                    have f42 : fr S_Mod_readA h h40 := fr_put Fh27 eh40 rfl
                    have N43 : nA h h40 := nA_s na9 eh40 (by omega)
                    refine V_iload d_Mod_read_271 rfl ?_
                    exact V_iret rfl d_Mod_read_273 ⟨v25, rfl, ⟨hI41, f42, N43⟩⟩
                  ·
                    refine V_iconst 0 d_Mod_read_77 (by decide) ?_
                    refine V_istore 8 [some (.ref 116), some (.int k), some (.int l), some (.int f), some (.int n), some (.int v24), some (.int v25), some (.int v26), some (.int 0), none, none] d_Mod_read_78 (by decide) rfl rfl ?_
                    have L44 : ∀ (nn : Nat) (v46 : Int32) (v46Z : Int) (v47 : Int32) (v47Z : Int), v46.toInt = v46Z → v47.toInt = v47Z → 0 ≤ v47Z ∧ v47Z ≤ 3 → v46Z ≠ 0 ∨ v47Z = 0 ∨ 0 ≤ fZ + 3 * v26Z ∧ fZ + 3 * v26Z + v47Z - 1 < svZ → 3 - v47Z < (nn : Int) → V R_Mod b_Mod_read 11 (some .int) 3 74 (q_Mod_readA h k kZ l lZ f fZ n nZ w wZ g gZ) h27 80 [some (.ref 116), some (.int k), some (.int l), some (.int f), some (.int n), some (.int v46), some (.int v25), some (.int v26), some (.int v47), none, none] [] := by
                      intro nn
                      induction nn with
                      | zero => intro v46 v46Z v47 v47Z v46E v47E q48 q49 hm50; exact absurd hm50 (by omega)
                      | succ nn ihL44 =>
                        intro v46 v46Z v47 v47Z v46E v47E q48 q49 hm50
                        refine V_iload d_Mod_read_80 rfl ?_
                        refine V_iconst 3 d_Mod_read_82 (by decide) ?_
                        refine V_icmp_ge 167 v47E tc_3 d_Mod_read_83 (by decide) (fun c51 => ?_) (fun c51 => ?_)
                        ·
                          refine V_iload d_Mod_read_167 rfl ?_
                          refine V_if_ne 259 v46E d_Mod_read_169 (by decide) (fun c52 => ?_) (fun c52 => ?_)
                          ·
                            obtain ⟨z53, z53E, z53e⟩ : ∃ y : Int32, y.toInt = v26Z + 1 ∧ y = v26 + Int32.ofInt 1 := ⟨_, ti_add v26E (by decide) (by omega), rfl⟩
                            refine V_iinc 7 [some (.ref 116), some (.int k), some (.int l), some (.int f), some (.int n), some (.int v46), some (.int v25), some (.int z53), some (.int v47), none, none] d_Mod_read_259 rfl z53e.symm (by decide) rfl rfl ?_
                            refine V_goto 65 d_Mod_read_262 (by decide) ?_
                            refine V_drop 8 [some (.ref 116), some (.int k), some (.int l), some (.int f), some (.int n), some (.int v46), some (.int v25), some (.int z53), none, none, none] rfl ?_
                            exact ihL22 v46 v46Z v25 v25Z z53 ((v26Z + 1)) h27 v46E v25E z53E Ih27 Fh27 K28 K29 (by omega) (by omega) na9 (by omega)
                          ·
                            refine V_bipush 40 d_Mod_read_172 (by decide) ?_
                            refine V_iload_n 1 d_Mod_read_174 rfl rfl ?_
                            refine V_imul tc_40 kE (by omega) d_Mod_read_175 (fun z54 z54e z54E => ?_)
                            refine V_iload_n 3 d_Mod_read_176 rfl rfl ?_
                            refine V_iadd z54E fE (by omega) d_Mod_read_177 (fun z55 z55e z55E => ?_)
                            refine V_iconst 3 d_Mod_read_178 (by decide) ?_
                            refine V_iload d_Mod_read_179 rfl ?_
                            refine V_imul tc_3 v26E (by omega) d_Mod_read_181 (fun z56 z56e z56E => ?_)
                            refine V_iadd z55E z56E (by omega) d_Mod_read_182 (fun z57 z57e z57E => ?_)
                            refine V_istore 8 [some (.ref 116), some (.int k), some (.int l), some (.int f), some (.int n), some (.int v46), some (.int v25), some (.int v26), some (.int z57), none, none] d_Mod_read_183 (by decide) rfl rfl ?_
                            refine V_aload_n 0 d_Mod_read_185 rfl rfl ?_
                            refine V_aload_n 0 d_Mod_read_186 rfl rfl ?_
                            refine V_getR fa_Mod_50 sk_116 rfl d_Mod_read_187 ?_
                            refine V_iload d_Mod_read_190 rfl ?_
                            refine N_iald sk_130 z57E (by omega) d_Mod_read_192 (fun z58 z58Z z58E z58e => ?_)
                            refine V_aload_n 0 d_Mod_read_193 rfl rfl ?_
                            refine V_getR fa_Mod_50 sk_116 rfl d_Mod_read_194 ?_
                            refine V_iload d_Mod_read_197 rfl ?_
                            refine V_iconst 1 d_Mod_read_199 (by decide) ?_
                            refine V_iadd z57E tc_1 (by omega) d_Mod_read_200 (fun z59 z59e z59E => ?_)
                            refine N_iald sk_130 z59E (by omega) d_Mod_read_201 (fun z60 z60Z z60E z60e => ?_)
                            refine V_aload_n 0 d_Mod_read_202 rfl rfl ?_
                            refine V_getR fa_Mod_50 sk_116 rfl d_Mod_read_203 ?_
                            refine V_iload d_Mod_read_206 rfl ?_
                            refine V_iconst 2 d_Mod_read_208 (by decide) ?_
                            refine V_iadd z57E tc_2 (by omega) d_Mod_read_209 (fun z61 z61e z61E => ?_)
                            refine N_iald sk_130 z61E (by omega) d_Mod_read_210 (fun z62 z62Z z62E z62e => ?_)
                            refine N_callVI [.int z58, .int z60, .int z62] [] cv_Mod_325 sk_116 rfl d_Mod_read_211 rfl (Nat.le_of_ble_eq_true rfl) (by decide) (by decide) (c_Mod_boreA h27 Ih27 z58 z58Z z58E z60 z60Z z60E z62 z62Z z62E w wZ wE K28 g gZ gE K29) (fun z63 h64 z63Z z63E p65 => ?_)
                            obtain ⟨hI66, fh64, p65⟩ := p65
                            have f67 : fr S_Mod_readA h h64 := fr_call Fh27 fh64 rfl
                            have N68 : nA h h64 := nA_t na9 p65
                            refine V_if_ge 256 z63E d_Mod_read_214 (by decide) (fun c69 => ?_) (fun c69 => ?_)
                            ·
                              obtain ⟨z70, z70E, z70e⟩ : ∃ y : Int32, y.toInt = v25Z + 1 ∧ y = v25 + Int32.ofInt 1 := ⟨_, ti_add v25E (by decide) (by omega), rfl⟩
                              refine V_iinc 6 [some (.ref 116), some (.int k), some (.int l), some (.int f), some (.int n), some (.int v46), some (.int z70), some (.int v26), some (.int z57), none, none] d_Mod_read_256 rfl z70e.symm (by decide) rfl rfl ?_
                              obtain ⟨z71, z71E, z71e⟩ : ∃ y : Int32, y.toInt = v26Z + 1 ∧ y = v26 + Int32.ofInt 1 := ⟨_, ti_add v26E (by decide) (by omega), rfl⟩
                              refine V_iinc 7 [some (.ref 116), some (.int k), some (.int l), some (.int f), some (.int n), some (.int v46), some (.int z70), some (.int z71), some (.int z57), none, none] d_Mod_read_259 rfl z71e.symm (by decide) rfl rfl ?_
                              refine V_goto 65 d_Mod_read_262 (by decide) ?_
                              refine V_drop 8 [some (.ref 116), some (.int k), some (.int l), some (.int f), some (.int n), some (.int v46), some (.int z70), some (.int z71), none, none, none] rfl ?_
                              exact ihL22 v46 v46Z z70 ((v25Z + 1)) z71 ((v26Z + 1)) h64 v46E z70E z71E hI66 f67 (kn_call fh64 K28 rfl) (kn_call fh64 K29 rfl) (by omega) (by omega) N68 (by omega)
                            ·
                              refine V_iconst 0 d_Mod_read_217 (by decide) ?_
                              refine V_istore 9 [some (.ref 116), some (.int k), some (.int l), some (.int f), some (.int n), some (.int v46), some (.int v25), some (.int v26), some (.int z57), some (.int 0), none] d_Mod_read_218 (by decide) rfl rfl ?_
                              have L72 : ∀ (nn : Nat) (v74 : Int32) (v74Z : Int) (h75 : Hp), v74.toInt = v74Z → Inv h75 → fr S_Mod_readA h h75 → h75.1 116 2 = w → h75.1 116 3 = g → 0 ≤ v74Z ∧ v74Z ≤ 20 → nA h h75 → 20 - v74Z < (nn : Int) → V R_Mod b_Mod_read 11 (some .int) 3 74 (q_Mod_readA h k kZ l lZ f fZ n nZ w wZ g gZ) h75 220 [some (.ref 116), some (.int k), some (.int l), some (.int f), some (.int n), some (.int v46), some (.int v25), some (.int v26), some (.int z57), some (.int v74), none] [] := by
                                intro nn
                                induction nn with
                                | zero => intro v74 v74Z h75 v74E Ih75 Fh75 K76 K77 q78 q79 hm80; exact absurd hm80 (by omega)
                                | succ nn ihL72 =>
                                  intro v74 v74Z h75 v74E Ih75 Fh75 K76 K77 q78 q79 hm80
                                  have na9 : nA h h75 := by assumption
                                  refine V_iload d_Mod_read_220 rfl ?_
                                  refine V_bipush 20 d_Mod_read_222 (by decide) ?_
                                  refine V_icmp_ge 250 v74E tc_20 d_Mod_read_224 (by decide) (fun c81 => ?_) (fun c81 => ?_)
                                  ·
                                    refine V_bipush (-20) d_Mod_read_250 (by decide) ?_
                                    refine V_iload d_Mod_read_252 rfl ?_
                                    refine V_isub tc_m20 v26E (by omega) d_Mod_read_254 (fun z82 z82e z82E => ?_)
                                    exact V_iret rfl d_Mod_read_255 ⟨z82, rfl, ⟨Ih75, Fh75, na9⟩⟩
                                  ·
                                    refine V_aload_n 0 d_Mod_read_227 rfl rfl ?_
                                    refine V_getR fa_Mod_7 sk_116 rfl d_Mod_read_228 ?_
                                    refine V_bipush 64 d_Mod_read_231 (by decide) ?_
                                    refine V_iload d_Mod_read_233 rfl ?_
                                    refine V_iadd tc_64 v74E (by omega) d_Mod_read_235 (fun z83 z83e z83E => ?_)
                                    refine V_aload_n 0 d_Mod_read_236 rfl rfl ?_
                                    refine V_getR fa_Mod_53 sk_116 rfl d_Mod_read_237 ?_
                                    refine V_iload d_Mod_read_240 rfl ?_
                                    refine N_iald sk_131 v74E (by omega) d_Mod_read_242 (fun z84 z84Z z84E z84e => ?_)
                                    refine N_iast sk_117 z83E (by omega) d_Mod_read_243 (fun h85 eh85 => ?_)
                                    have hI86 : Inv h85 := inv_full Ih75 eh85 (st_lo (by omega))
                                    have f87 : fr S_Mod_readA h h85 := fr_put Fh75 eh85 rfl
                                    have N88 : nA h h85 := nA_s na9 eh85 (by omega)
                                    obtain ⟨z89, z89E, z89e⟩ : ∃ y : Int32, y.toInt = v74Z + 1 ∧ y = v74 + Int32.ofInt 1 := ⟨_, ti_add v74E (by decide) (by omega), rfl⟩
                                    refine V_iinc 9 [some (.ref 116), some (.int k), some (.int l), some (.int f), some (.int n), some (.int v46), some (.int v25), some (.int v26), some (.int z57), some (.int z89), none] d_Mod_read_244 rfl z89e.symm (by decide) rfl rfl ?_
                                    refine V_goto 220 d_Mod_read_247 (by decide) ?_
                                    exact ihL72 z89 ((v74Z + 1)) h85 z89E hI86 f87 (kn_ne eh85 K76 (by decide)) (kn_ne eh85 K77 (by decide)) (by omega) N88 (by omega)
                              exact L72 (Int.toNat ((20 - 0 : Int) + 1)) 0 0 h64 tc_0 hI66 f67 (kn_call fh64 K28 rfl) (kn_call fh64 K29 rfl) (by omega) N68 (by omega)
                        ·
                          refine V_iload d_Mod_read_86 rfl ?_
                          refine V_if_ne 167 v46E d_Mod_read_88 (by decide) (fun c90 => ?_) (fun c90 => ?_)
                          ·
                            refine V_iload d_Mod_read_167 rfl ?_
                            refine V_if_ne 259 v46E d_Mod_read_169 (by decide) (fun c91 => ?_) (fun c91 => ?_)
                            ·
                              obtain ⟨z92, z92E, z92e⟩ : ∃ y : Int32, y.toInt = v26Z + 1 ∧ y = v26 + Int32.ofInt 1 := ⟨_, ti_add v26E (by decide) (by omega), rfl⟩
                              refine V_iinc 7 [some (.ref 116), some (.int k), some (.int l), some (.int f), some (.int n), some (.int v46), some (.int v25), some (.int z92), some (.int v47), none, none] d_Mod_read_259 rfl z92e.symm (by decide) rfl rfl ?_
                              refine V_goto 65 d_Mod_read_262 (by decide) ?_
                              refine V_drop 8 [some (.ref 116), some (.int k), some (.int l), some (.int f), some (.int n), some (.int v46), some (.int v25), some (.int z92), none, none, none] rfl ?_
                              exact ihL22 v46 v46Z v25 v25Z z92 ((v26Z + 1)) h27 v46E v25E z92E Ih27 Fh27 K28 K29 (by omega) (by omega) na9 (by omega)
                            ·
                              refine V_bipush 40 d_Mod_read_172 (by decide) ?_
                              refine V_iload_n 1 d_Mod_read_174 rfl rfl ?_
                              refine V_imul tc_40 kE (by omega) d_Mod_read_175 (fun z93 z93e z93E => ?_)
                              refine V_iload_n 3 d_Mod_read_176 rfl rfl ?_
                              refine V_iadd z93E fE (by omega) d_Mod_read_177 (fun z94 z94e z94E => ?_)
                              refine V_iconst 3 d_Mod_read_178 (by decide) ?_
                              refine V_iload d_Mod_read_179 rfl ?_
                              refine V_imul tc_3 v26E (by omega) d_Mod_read_181 (fun z95 z95e z95E => ?_)
                              refine V_iadd z94E z95E (by omega) d_Mod_read_182 (fun z96 z96e z96E => ?_)
                              refine V_istore 8 [some (.ref 116), some (.int k), some (.int l), some (.int f), some (.int n), some (.int v46), some (.int v25), some (.int v26), some (.int z96), none, none] d_Mod_read_183 (by decide) rfl rfl ?_
                              refine V_aload_n 0 d_Mod_read_185 rfl rfl ?_
                              refine V_aload_n 0 d_Mod_read_186 rfl rfl ?_
                              refine V_getR fa_Mod_50 sk_116 rfl d_Mod_read_187 ?_
                              refine V_iload d_Mod_read_190 rfl ?_
                              refine N_iald sk_130 z96E (by omega) d_Mod_read_192 (fun z97 z97Z z97E z97e => ?_)
                              refine V_aload_n 0 d_Mod_read_193 rfl rfl ?_
                              refine V_getR fa_Mod_50 sk_116 rfl d_Mod_read_194 ?_
                              refine V_iload d_Mod_read_197 rfl ?_
                              refine V_iconst 1 d_Mod_read_199 (by decide) ?_
                              refine V_iadd z96E tc_1 (by omega) d_Mod_read_200 (fun z98 z98e z98E => ?_)
                              refine N_iald sk_130 z98E (by omega) d_Mod_read_201 (fun z99 z99Z z99E z99e => ?_)
                              refine V_aload_n 0 d_Mod_read_202 rfl rfl ?_
                              refine V_getR fa_Mod_50 sk_116 rfl d_Mod_read_203 ?_
                              refine V_iload d_Mod_read_206 rfl ?_
                              refine V_iconst 2 d_Mod_read_208 (by decide) ?_
                              refine V_iadd z96E tc_2 (by omega) d_Mod_read_209 (fun z100 z100e z100E => ?_)
                              refine N_iald sk_130 z100E (by omega) d_Mod_read_210 (fun z101 z101Z z101E z101e => ?_)
                              refine N_callVI [.int z97, .int z99, .int z101] [] cv_Mod_325 sk_116 rfl d_Mod_read_211 rfl (Nat.le_of_ble_eq_true rfl) (by decide) (by decide) (c_Mod_boreA h27 Ih27 z97 z97Z z97E z99 z99Z z99E z101 z101Z z101E w wZ wE K28 g gZ gE K29) (fun z102 h103 z102Z z102E p104 => ?_)
                              obtain ⟨hI105, fh103, p104⟩ := p104
                              have f106 : fr S_Mod_readA h h103 := fr_call Fh27 fh103 rfl
                              have N107 : nA h h103 := nA_t na9 p104
                              refine V_if_ge 256 z102E d_Mod_read_214 (by decide) (fun c108 => ?_) (fun c108 => ?_)
                              ·
                                obtain ⟨z109, z109E, z109e⟩ : ∃ y : Int32, y.toInt = v25Z + 1 ∧ y = v25 + Int32.ofInt 1 := ⟨_, ti_add v25E (by decide) (by omega), rfl⟩
                                refine V_iinc 6 [some (.ref 116), some (.int k), some (.int l), some (.int f), some (.int n), some (.int v46), some (.int z109), some (.int v26), some (.int z96), none, none] d_Mod_read_256 rfl z109e.symm (by decide) rfl rfl ?_
                                obtain ⟨z110, z110E, z110e⟩ : ∃ y : Int32, y.toInt = v26Z + 1 ∧ y = v26 + Int32.ofInt 1 := ⟨_, ti_add v26E (by decide) (by omega), rfl⟩
                                refine V_iinc 7 [some (.ref 116), some (.int k), some (.int l), some (.int f), some (.int n), some (.int v46), some (.int z109), some (.int z110), some (.int z96), none, none] d_Mod_read_259 rfl z110e.symm (by decide) rfl rfl ?_
                                refine V_goto 65 d_Mod_read_262 (by decide) ?_
                                refine V_drop 8 [some (.ref 116), some (.int k), some (.int l), some (.int f), some (.int n), some (.int v46), some (.int z109), some (.int z110), none, none, none] rfl ?_
                                exact ihL22 v46 v46Z z109 ((v25Z + 1)) z110 ((v26Z + 1)) h103 v46E z109E z110E hI105 f106 (kn_call fh103 K28 rfl) (kn_call fh103 K29 rfl) (by omega) (by omega) N107 (by omega)
                              ·
                                refine V_iconst 0 d_Mod_read_217 (by decide) ?_
                                refine V_istore 9 [some (.ref 116), some (.int k), some (.int l), some (.int f), some (.int n), some (.int v46), some (.int v25), some (.int v26), some (.int z96), some (.int 0), none] d_Mod_read_218 (by decide) rfl rfl ?_
                                have L111 : ∀ (nn : Nat) (v113 : Int32) (v113Z : Int) (h114 : Hp), v113.toInt = v113Z → Inv h114 → fr S_Mod_readA h h114 → h114.1 116 2 = w → h114.1 116 3 = g → 0 ≤ v113Z ∧ v113Z ≤ 20 → nA h h114 → 20 - v113Z < (nn : Int) → V R_Mod b_Mod_read 11 (some .int) 3 74 (q_Mod_readA h k kZ l lZ f fZ n nZ w wZ g gZ) h114 220 [some (.ref 116), some (.int k), some (.int l), some (.int f), some (.int n), some (.int v46), some (.int v25), some (.int v26), some (.int z96), some (.int v113), none] [] := by
                                  intro nn
                                  induction nn with
                                  | zero => intro v113 v113Z h114 v113E Ih114 Fh114 K115 K116 q117 q118 hm119; exact absurd hm119 (by omega)
                                  | succ nn ihL111 =>
                                    intro v113 v113Z h114 v113E Ih114 Fh114 K115 K116 q117 q118 hm119
                                    have na9 : nA h h114 := by assumption
                                    refine V_iload d_Mod_read_220 rfl ?_
                                    refine V_bipush 20 d_Mod_read_222 (by decide) ?_
                                    refine V_icmp_ge 250 v113E tc_20 d_Mod_read_224 (by decide) (fun c120 => ?_) (fun c120 => ?_)
                                    ·
                                      refine V_bipush (-20) d_Mod_read_250 (by decide) ?_
                                      refine V_iload d_Mod_read_252 rfl ?_
                                      refine V_isub tc_m20 v26E (by omega) d_Mod_read_254 (fun z121 z121e z121E => ?_)
                                      exact V_iret rfl d_Mod_read_255 ⟨z121, rfl, ⟨Ih114, Fh114, na9⟩⟩
                                    ·
                                      refine V_aload_n 0 d_Mod_read_227 rfl rfl ?_
                                      refine V_getR fa_Mod_7 sk_116 rfl d_Mod_read_228 ?_
                                      refine V_bipush 64 d_Mod_read_231 (by decide) ?_
                                      refine V_iload d_Mod_read_233 rfl ?_
                                      refine V_iadd tc_64 v113E (by omega) d_Mod_read_235 (fun z122 z122e z122E => ?_)
                                      refine V_aload_n 0 d_Mod_read_236 rfl rfl ?_
                                      refine V_getR fa_Mod_53 sk_116 rfl d_Mod_read_237 ?_
                                      refine V_iload d_Mod_read_240 rfl ?_
                                      refine N_iald sk_131 v113E (by omega) d_Mod_read_242 (fun z123 z123Z z123E z123e => ?_)
                                      refine N_iast sk_117 z122E (by omega) d_Mod_read_243 (fun h124 eh124 => ?_)
                                      have hI125 : Inv h124 := inv_full Ih114 eh124 (st_lo (by omega))
                                      have f126 : fr S_Mod_readA h h124 := fr_put Fh114 eh124 rfl
                                      have N127 : nA h h124 := nA_s na9 eh124 (by omega)
                                      obtain ⟨z128, z128E, z128e⟩ : ∃ y : Int32, y.toInt = v113Z + 1 ∧ y = v113 + Int32.ofInt 1 := ⟨_, ti_add v113E (by decide) (by omega), rfl⟩
                                      refine V_iinc 9 [some (.ref 116), some (.int k), some (.int l), some (.int f), some (.int n), some (.int v46), some (.int v25), some (.int v26), some (.int z96), some (.int z128), none] d_Mod_read_244 rfl z128e.symm (by decide) rfl rfl ?_
                                      refine V_goto 220 d_Mod_read_247 (by decide) ?_
                                      exact ihL111 z128 ((v113Z + 1)) h124 z128E hI125 f126 (kn_ne eh124 K115 (by decide)) (kn_ne eh124 K116 (by decide)) (by omega) N127 (by omega)
                                exact L111 (Int.toNat ((20 - 0 : Int) + 1)) 0 0 h103 tc_0 hI105 f106 (kn_call fh103 K28 rfl) (kn_call fh103 K29 rfl) (by omega) N107 (by omega)
                          ·
                            refine V_iload_n 3 d_Mod_read_91 rfl rfl ?_
                            refine V_i2l d_Mod_read_92 (fun z129 z129e z129E => ?_)
                            have z129F : z129.toInt = fZ := z129E.trans fE
                            refine V_iconst 3 d_Mod_read_93 (by decide) ?_
                            refine V_iload d_Mod_read_94 rfl ?_
                            refine V_imul tc_3 v26E (by omega) d_Mod_read_96 (fun z130 z130e z130E => ?_)
                            refine V_i2l d_Mod_read_97 (fun z131 z131e z131E => ?_)
                            have z131F : z131.toInt = (3 * v26Z) := z131E.trans z130E
                            refine N_ladd d_Mod_read_98 (fun z132 z132Z z132E z132e => ?_)
                            have g133 : z132Z = fZ + (3 * v26Z) := by rw [← z132E, z132e]; exact t64_add z129F z131F (by omega)
                            refine V_iload d_Mod_read_99 rfl ?_
                            refine V_i2l d_Mod_read_101 (fun z134 z134e z134E => ?_)
                            have z134F : z134.toInt = v47Z := z134E.trans v47E
                            refine N_ladd d_Mod_read_102 (fun z135 z135Z z135E z135e => ?_)
                            have g136 : z135Z = z132Z + v47Z := by rw [← z135E, z135e]; exact t64_add z132E z134F (by omega)
                            refine V_lstore 9 [some (.ref 116), some (.int k), some (.int l), some (.int f), some (.int n), some (.int v46), some (.int v25), some (.int v26), some (.int v47), some (.long z135), none] d_Mod_read_103 (by decide) rfl rfl ?_
                            refine V_aload_n 0 d_Mod_read_105 rfl rfl ?_
                            refine V_getR fa_Mod_44 sk_116 rfl d_Mod_read_106 ?_
                            refine V_iload_n 1 d_Mod_read_109 rfl rfl ?_
                            refine N_iald sk_128 kE (by omega) d_Mod_read_110 (fun z137 z137Z z137E z137e => ?_)
                            refine V_bipush (-4) d_Mod_read_111 (by decide) ?_
                            refine V_icmp_ne 120 z137E tc_m4 d_Mod_read_113 (by decide) (fun c138 => ?_) (fun c138 => ?_)
                            ·
                              refine V_aload_n 0 d_Mod_read_120 rfl rfl ?_
                              refine V_getR fa_Mod_44 sk_116 rfl d_Mod_read_121 ?_
                              refine V_iload_n 1 d_Mod_read_124 rfl rfl ?_
                              refine N_iald sk_128 kE (by omega) d_Mod_read_125 (fun z139 z139Z z139E z139e => ?_)
                              refine V_iload_n 2 d_Mod_read_126 rfl rfl ?_
                              refine V_icmp_eq 134 z139E lE d_Mod_read_127 (by decide) (fun c140 => ?_) (fun c140 => ?_)
                              ·
                                refine V_lload d_Mod_read_134 rfl ?_
                                refine V_lconst 0 d_Mod_read_136 (by decide) ?_
                                refine N_lcmp d_Mod_read_137 (fun z141 z141Z z141E z141e => ?_)
                                have g142 := lcmp_ti z135E tl_0 z141e z141E
                                refine V_if_lt 154 z141E d_Mod_read_138 (by decide) (fun c143 => ?_) (fun c143 => ?_)
                                ·
                                  refine V_iconst 2 d_Mod_read_154 (by decide) ?_
                                  refine V_goto 159 d_Mod_read_155 (by decide) ?_
                                  refine V_istore 5 [some (.ref 116), some (.int k), some (.int l), some (.int f), some (.int n), some (.int 2), some (.int v25), some (.int v26), some (.int v47), some (.long z135), none] d_Mod_read_159 (by decide) rfl rfl ?_
                                  obtain ⟨z144, z144E, z144e⟩ : ∃ y : Int32, y.toInt = v47Z + 1 ∧ y = v47 + Int32.ofInt 1 := ⟨_, ti_add v47E (by decide) (by omega), rfl⟩
                                  refine V_iinc 8 [some (.ref 116), some (.int k), some (.int l), some (.int f), some (.int n), some (.int 2), some (.int v25), some (.int v26), some (.int z144), some (.long z135), none] d_Mod_read_161 rfl z144e.symm (by decide) rfl rfl ?_
                                  refine V_goto 80 d_Mod_read_164 (by decide) ?_
                                  refine V_drop 9 [some (.ref 116), some (.int k), some (.int l), some (.int f), some (.int n), some (.int 2), some (.int v25), some (.int v26), some (.int z144), none, none] rfl ?_
                                  exact ihL44 2 2 z144 ((v47Z + 1)) tc_2 z144E (by omega) (by omega) (by omega)
                                ·
                                  refine V_lload d_Mod_read_141 rfl ?_
                                  refine V_aload_n 0 d_Mod_read_143 rfl rfl ?_
                                  refine V_getR fa_Mod_47 sk_116 rfl d_Mod_read_144 ?_
                                  refine V_iload_n 1 d_Mod_read_147 rfl rfl ?_
                                  refine N_iald sk_129 kE (by omega) d_Mod_read_148 (fun z145 z145Z z145E z145e => ?_)
                                  have g146 : 0 ≤ z145Z ∧ z145Z ≤ 40 := inv_at Ih27 z145E z145e rfl
                                  have g147 : z145Z = svZ := by rw [← z145E, z145e, (Fh27).1 129 _ rfl, ← svK, svE]
                                  refine V_i2l d_Mod_read_149 (fun z148 z148e z148E => ?_)
                                  have z148F : z148.toInt = z145Z := z148E.trans z145E
                                  refine N_lcmp d_Mod_read_150 (fun z149 z149Z z149E z149e => ?_)
                                  have g150 := lcmp_ti z135E z148F z149e z149E
                                  refine V_if_lt 158 z149E d_Mod_read_151 (by decide) (fun c151 => ?_) (fun c151 => ?_)
                                  ·
                                    refine V_iconst 0 d_Mod_read_158 (by decide) ?_
                                    refine V_istore 5 [some (.ref 116), some (.int k), some (.int l), some (.int f), some (.int n), some (.int 0), some (.int v25), some (.int v26), some (.int v47), some (.long z135), none] d_Mod_read_159 (by decide) rfl rfl ?_
                                    obtain ⟨z152, z152E, z152e⟩ : ∃ y : Int32, y.toInt = v47Z + 1 ∧ y = v47 + Int32.ofInt 1 := ⟨_, ti_add v47E (by decide) (by omega), rfl⟩
                                    refine V_iinc 8 [some (.ref 116), some (.int k), some (.int l), some (.int f), some (.int n), some (.int 0), some (.int v25), some (.int v26), some (.int z152), some (.long z135), none] d_Mod_read_161 rfl z152e.symm (by decide) rfl rfl ?_
                                    refine V_goto 80 d_Mod_read_164 (by decide) ?_
                                    refine V_drop 9 [some (.ref 116), some (.int k), some (.int l), some (.int f), some (.int n), some (.int 0), some (.int v25), some (.int v26), some (.int z152), none, none] rfl ?_
                                    exact ihL44 0 0 z152 ((v47Z + 1)) tc_0 z152E (by omega) (by omega) (by omega)
                                  ·
                                    refine V_iconst 2 d_Mod_read_154 (by decide) ?_
                                    refine V_goto 159 d_Mod_read_155 (by decide) ?_
                                    refine V_istore 5 [some (.ref 116), some (.int k), some (.int l), some (.int f), some (.int n), some (.int 2), some (.int v25), some (.int v26), some (.int v47), some (.long z135), none] d_Mod_read_159 (by decide) rfl rfl ?_
                                    obtain ⟨z153, z153E, z153e⟩ : ∃ y : Int32, y.toInt = v47Z + 1 ∧ y = v47 + Int32.ofInt 1 := ⟨_, ti_add v47E (by decide) (by omega), rfl⟩
                                    refine V_iinc 8 [some (.ref 116), some (.int k), some (.int l), some (.int f), some (.int n), some (.int 2), some (.int v25), some (.int v26), some (.int z153), some (.long z135), none] d_Mod_read_161 rfl z153e.symm (by decide) rfl rfl ?_
                                    refine V_goto 80 d_Mod_read_164 (by decide) ?_
                                    refine V_drop 9 [some (.ref 116), some (.int k), some (.int l), some (.int f), some (.int n), some (.int 2), some (.int v25), some (.int v26), some (.int z153), none, none] rfl ?_
                                    exact ihL44 2 2 z153 ((v47Z + 1)) tc_2 z153E (by omega) (by omega) (by omega)
                              ·
                                refine V_iconst 3 d_Mod_read_130 (by decide) ?_
                                refine V_goto 159 d_Mod_read_131 (by decide) ?_
                                refine V_istore 5 [some (.ref 116), some (.int k), some (.int l), some (.int f), some (.int n), some (.int 3), some (.int v25), some (.int v26), some (.int v47), some (.long z135), none] d_Mod_read_159 (by decide) rfl rfl ?_
                                obtain ⟨z154, z154E, z154e⟩ : ∃ y : Int32, y.toInt = v47Z + 1 ∧ y = v47 + Int32.ofInt 1 := ⟨_, ti_add v47E (by decide) (by omega), rfl⟩
                                refine V_iinc 8 [some (.ref 116), some (.int k), some (.int l), some (.int f), some (.int n), some (.int 3), some (.int v25), some (.int v26), some (.int z154), some (.long z135), none] d_Mod_read_161 rfl z154e.symm (by decide) rfl rfl ?_
                                refine V_goto 80 d_Mod_read_164 (by decide) ?_
                                refine V_drop 9 [some (.ref 116), some (.int k), some (.int l), some (.int f), some (.int n), some (.int 3), some (.int v25), some (.int v26), some (.int z154), none, none] rfl ?_
                                exact ihL44 3 3 z154 ((v47Z + 1)) tc_3 z154E (by omega) (by omega) (by omega)
                            ·
                              refine V_iconst 1 d_Mod_read_116 (by decide) ?_
                              refine V_goto 159 d_Mod_read_117 (by decide) ?_
                              refine V_istore 5 [some (.ref 116), some (.int k), some (.int l), some (.int f), some (.int n), some (.int 1), some (.int v25), some (.int v26), some (.int v47), some (.long z135), none] d_Mod_read_159 (by decide) rfl rfl ?_
                              obtain ⟨z155, z155E, z155e⟩ : ∃ y : Int32, y.toInt = v47Z + 1 ∧ y = v47 + Int32.ofInt 1 := ⟨_, ti_add v47E (by decide) (by omega), rfl⟩
                              refine V_iinc 8 [some (.ref 116), some (.int k), some (.int l), some (.int f), some (.int n), some (.int 1), some (.int v25), some (.int v26), some (.int z155), some (.long z135), none] d_Mod_read_161 rfl z155e.symm (by decide) rfl rfl ?_
                              refine V_goto 80 d_Mod_read_164 (by decide) ?_
                              refine V_drop 9 [some (.ref 116), some (.int k), some (.int l), some (.int f), some (.int n), some (.int 1), some (.int v25), some (.int v26), some (.int z155), none, none] rfl ?_
                              exact ihL44 1 1 z155 ((v47Z + 1)) tc_1 z155E (by omega) (by omega) (by omega)
                    exact L44 (Int.toNat ((3 - 0 : Int) + 1)) v24 v24Z 0 0 v24E tc_0 (by omega) (by omega) (by omega)
            exact L22 (Int.toNat ((nZ - 0 : Int) + 1)) 0 0 0 0 0 0 h15 tc_0 tc_0 tc_0 Ih15 Fh15 K16 K17 (by omega) (by omega) na9 (by omega)
          ·
            refine V_aload_n 0 d_Mod_read_33 rfl rfl ?_
            refine V_getR fa_Mod_53 sk_116 rfl d_Mod_read_34 ?_
            refine V_iload d_Mod_read_37 rfl ?_
            refine V_aload_n 0 d_Mod_read_39 rfl rfl ?_
            refine V_getR fa_Mod_7 sk_116 rfl d_Mod_read_40 ?_
            refine V_bipush 64 d_Mod_read_43 (by decide) ?_
            refine V_iload d_Mod_read_45 rfl ?_
            refine V_iadd tc_64 v14E (by omega) d_Mod_read_47 (fun z156 z156e z156E => ?_)
            refine N_iald sk_117 z156E (by omega) d_Mod_read_48 (fun z157 z157Z z157E z157e => ?_)
            refine N_iast sk_131 v14E (by omega) d_Mod_read_49 (fun h158 eh158 => ?_)
            have hI159 : Inv h158 := inv_full Ih15 eh158 rfl
            have f160 : fr S_Mod_readA h h158 := fr_put Fh15 eh158 rfl
            have N161 : nA h h158 := nA_s na9 eh158 (by omega)
            obtain ⟨z162, z162E, z162e⟩ : ∃ y : Int32, y.toInt = v14Z + 1 ∧ y = v14 + Int32.ofInt 1 := ⟨_, ti_add v14E (by decide) (by omega), rfl⟩
            refine V_iinc 5 [some (.ref 116), some (.int k), some (.int l), some (.int f), some (.int n), some (.int z162), none, none, none, none, none] d_Mod_read_50 rfl z162e.symm (by decide) rfl rfl ?_
            refine V_goto 26 d_Mod_read_53 (by decide) ?_
            exact ihL12 z162 ((v14Z + 1)) h158 z162E hI159 f160 (kn_ne eh158 K16 (by decide)) (kn_ne eh158 K17 (by decide)) (by omega) N161 (by omega)
      exact L12 (Int.toNat ((20 - 0 : Int) + 1)) 0 0 h tc_0 hI f0 wK gK (by omega) nA_rf (by omega)
    ·
      refine V_iconst (-1) d_Mod_read_21 (by decide) ?_
      exact V_iret rfl d_Mod_read_22 ⟨(-1), rfl, ⟨hI, f0, nA_rf⟩⟩
end
section
def S_Rod_readX : List (Nat × Option Nat) := [(0, some 3), (0, some 4), (1, none), (2, none), (3, none), (4, none), (5, none), (6, none), (7, some 4), (8, none), (9, none), (10, none), (11, none), (12, some 4), (13, none), (14, none), (15, none), (16, none), (17, some 3), (17, some 4), (18, none), (19, none), (20, none), (21, none), (22, none), (23, none), (24, some 4), (25, none), (26, none), (27, none), (28, none), (29, some 4), (30, none), (31, none), (32, none), (33, none), (85, some 10)]
abbrev q_Rod_readX (h : Hp) (k : Int32) (kZ : Int) (l : Int32) (lZ : Int) (f : Int32) (fZ : Int) (n : Int32) (nZ : Int) : Option Value → Hp → Prop := pInt (fun r h' => Inv h' ∧ fr S_Rod_readX h h' ∧ (cA h h'))
set_option maxRecDepth 100000 in
theorem c_Rod_readX (h : Hp) (hI : Inv h) (k : Int32) (kZ : Int) (kE : k.toInt = kZ) (l : Int32) (lZ : Int) (lE : l.toInt = lZ) (f : Int32) (fZ : Int) (fE : f.toInt = fZ) (n : Int32) (nZ : Int) (nE : n.toInt = nZ) : Ct y_Rod_read b_Rod_read 9 (some .int) 3 102 [.ref 85, .int k, .int l, .int f, .int n] h (q_Rod_readX h k kZ l lZ f fZ n nZ) := by
  refine ct_ow R_Rod [some (.ref 85), some (.int k), some (.int l), some (.int f), some (.int n), none, none, none, none] rfl (by decide) rfl (Nat.le_of_ble_eq_true rfl) ?_
  have f0 : fr S_Rod_readX h h := fr_rf
  refine V_iload_n 1 d_Rod_read_0 rfl rfl ?_
  refine N_callSI [.int k] [] cs_Rod_283 d_Rod_read_1 rfl (Nat.le_of_ble_eq_true rfl) (by decide) (by decide) (c_Rod_isSheet h k kZ kE) (fun z1 h2 z1Z z1E p3 => ?_)
  obtain ⟨eh2, p3⟩ := p3
  subst eh2
  refine V_if_eq 26 z1E d_Rod_read_4 (by decide) (fun c4 => ?_) (fun c4 => ?_)
  ·
    refine V_iconst (-1) d_Rod_read_26 (by decide) ?_
    exact V_iret rfl d_Rod_read_27 ⟨(-1), rfl, ⟨hI, f0, (fun _ _ _ _ => rfl)⟩⟩
  ·
    refine V_iload_n 2 d_Rod_read_7 rfl rfl ?_
    refine N_callSI [.int l] [] cs_Rod_286 d_Rod_read_8 rfl (Nat.le_of_ble_eq_true rfl) (by decide) (by decide) (c_Rod_isLane h l lZ lE) (fun z5 h6 z5Z z5E p7 => ?_)
    obtain ⟨eh6, p7⟩ := p7
    subst eh6
    refine V_if_eq 26 z5E d_Rod_read_11 (by decide) (fun c8 => ?_) (fun c8 => ?_)
    ·
      refine V_iconst (-1) d_Rod_read_26 (by decide) ?_
      exact V_iret rfl d_Rod_read_27 ⟨(-1), rfl, ⟨hI, f0, (fun _ _ _ _ => rfl)⟩⟩
    ·
      refine V_iload d_Rod_read_14 rfl ?_
      refine V_if_lt 26 nE d_Rod_read_16 (by decide) (fun c9 => ?_) (fun c9 => ?_)
      ·
        refine V_iconst (-1) d_Rod_read_26 (by decide) ?_
        exact V_iret rfl d_Rod_read_27 ⟨(-1), rfl, ⟨hI, f0, (fun _ _ _ _ => rfl)⟩⟩
      ·
        refine V_iload d_Rod_read_19 rfl ?_
        refine V_bipush 13 d_Rod_read_21 (by decide) ?_
        refine V_icmp_le 28 nE tc_13 d_Rod_read_23 (by decide) (fun c10 => ?_) (fun c10 => ?_)
        ·
          refine V_aload_n 0 d_Rod_read_28 rfl rfl ?_
          refine V_getR fa_Rod_62 sk_85 rfl d_Rod_read_29 ?_
          refine V_iload_n 1 d_Rod_read_32 rfl rfl ?_
          rcases (by omega : kZ = 0 ∨ kZ = 1 ∨ kZ = 2 ∨ kZ = 3) with c11 | c11 | c11 | c11
          ·
            refine V_aald (r := 108) sk_107 (by decide) kE (by omega) (by rw [c11]; rfl) d_Rod_read_33 ?_
            refine V_astore 5 [some (.ref 85), some (.int k), some (.int l), some (.int f), some (.int n), some (.ref 108), none, none, none] d_Rod_read_34 (by decide) rfl rfl ?_
            refine V_aload d_Rod_read_36 rfl ?_
            refine V_iload_n 2 d_Rod_read_38 rfl rfl ?_
            refine V_iload_n 3 d_Rod_read_39 rfl rfl ?_
            refine V_iload d_Rod_read_40 rfl ?_
            obtain ⟨z12, z12Z, z12E, z12e⟩ : ∃ (y : Int32) (Y : Int), y.toInt = Y ∧ y = h.1 108 2 := ⟨_, _, rfl, rfl⟩
            have g13 : 0 ≤ z12Z ∧ z12Z ≤ 40 := inv_at hI z12E z12e rfl
            refine N_callVI [.int l, .int f, .int n] [] cv_Rod_300 sk_108 rfl d_Rod_read_42 rfl (Nat.le_of_ble_eq_true rfl) (by decide) (by decide) (c_Sheet_wholeBores_0 h hI l lZ lE f fZ fE n nZ nE z12 z12Z z12E z12e.symm (by omega)) (fun z14 h15 z14Z z14E p16 => ?_)
            obtain ⟨eh15, p16⟩ := p16
            subst eh15
            refine V_istore 6 [some (.ref 85), some (.int k), some (.int l), some (.int f), some (.int n), some (.ref 108), some (.int z14), none, none] d_Rod_read_45 (by decide) rfl rfl ?_
            refine V_aload_n 0 d_Rod_read_47 rfl rfl ?_
            refine V_getR fa_Rod_16 sk_85 rfl d_Rod_read_48 ?_
            refine V_aload_n 0 d_Rod_read_51 rfl rfl ?_
            refine V_getR fa_Rod_12 sk_85 rfl d_Rod_read_52 ?_
            obtain ⟨z17, z17Z, z17E, z17e⟩ : ∃ (y : Int32) (Y : Int), y.toInt = Y ∧ y = h.1 0 3 := ⟨_, _, rfl, rfl⟩
            obtain ⟨z18, z18Z, z18E, z18e⟩ : ∃ (y : Int32) (Y : Int), y.toInt = Y ∧ y = h.1 0 4 := ⟨_, _, rfl, rfl⟩
            refine N_callVV [.ref 0] [] cv_Rod_84 sk_17 rfl d_Rod_read_55 rfl (Nat.le_of_ble_eq_true rfl) (by decide) (by decide) (c_County_copyX_1_0 h hI z17 z17Z z17E z17e.symm z18 z18Z z18E z18e.symm) (fun h20 p21 => ?_)
            obtain ⟨hI22, fh20, p21⟩ := p21
            have f23 : fr S_Rod_readX h h20 := fr_call f0 fh20 rfl
            have P24 : sp2 h h20 := sp2_of p21 fh20 rfl
            refine V_iconst 0 d_Rod_read_58 (by decide) ?_
            refine V_istore 7 [some (.ref 85), some (.int k), some (.int l), some (.int f), some (.int n), some (.ref 108), some (.int z14), some (.int 0), none] d_Rod_read_59 (by decide) rfl rfl ?_
            have L25 : ∀ (nn : Nat) (v27 : Int32) (v27Z : Int) (h28 : Hp), v27.toInt = v27Z → Inv h28 → fr S_Rod_readX h h28 → 0 ≤ v27Z ∧ v27Z ≤ z14Z → sp2 h h28 → z14Z - v27Z < (nn : Int) → V R_Rod b_Rod_read 9 (some .int) 3 102 (q_Rod_readX h k kZ l lZ f fZ n nZ) h28 61 [some (.ref 85), some (.int k), some (.int l), some (.int f), some (.int n), some (.ref 108), some (.int z14), some (.int v27), none] [] := by
              intro nn
              induction nn with
              | zero => intro v27 v27Z h28 v27E Ih28 Fh28 q29 q30 hm31; exact absurd hm31 (by omega)
              | succ nn ihL25 =>
                intro v27 v27Z h28 v27E Ih28 Fh28 q29 q30 hm31
                have sp9 : sp2 h h28 := by assumption
                refine V_iload d_Rod_read_61 rfl ?_
                refine V_iload d_Rod_read_63 rfl ?_
                refine V_icmp_ge 137 v27E z14E d_Rod_read_65 (by decide) (fun c32 => ?_) (fun c32 => ?_)
                ·
                  refine V_aload_n 0 d_Rod_read_137 rfl rfl ?_
                  refine V_aload d_Rod_read_138 rfl ?_
                  refine V_iload_n 2 d_Rod_read_140 rfl rfl ?_
                  refine V_iload d_Rod_read_141 rfl ?_
                  refine V_iload d_Rod_read_143 rfl ?_
                  refine N_callVI [.int l, .int n, .int z14] [.ref 85] cv_Rod_306 sk_108 rfl d_Rod_read_145 rfl (Nat.le_of_ble_eq_true rfl) (by decide) (by decide) (c_Sheet_readFault_0 h28 Ih28 l lZ lE n nZ nE z14 z14Z z14E) (fun z33 h34 z33Z z33E p35 => ?_)
                  subst p35
                  refine N_putI fp_Rod_309 sk_85 rfl d_Rod_read_148 (fun h36 eh36 => ?_)
                  have hI37 : Inv h36 := inv_full Ih28 eh36 rfl
                  have f38 : fr S_Rod_readX h h36 := fr_put Fh28 eh36 rfl
                  have P39 : sp2 h h36 := sp2_put sp9 eh36 (by decide)
                  refine V_iload d_Rod_read_151 rfl ?_
                  exact V_iret rfl d_Rod_read_153 ⟨z14, rfl, ⟨hI37, f38, (sp2_c P39)⟩⟩
                ·
                  refine V_iload_n 3 d_Rod_read_68 rfl rfl ?_
                  refine V_iconst 3 d_Rod_read_69 (by decide) ?_
                  refine V_iload d_Rod_read_70 rfl ?_
                  refine V_imul tc_3 v27E (by omega) d_Rod_read_72 (fun z40 z40e z40E => ?_)
                  refine V_iadd fE z40E (by omega) d_Rod_read_73 (fun z41 z41e z41E => ?_)
                  refine V_istore 8 [some (.ref 85), some (.int k), some (.int l), some (.int f), some (.int n), some (.ref 108), some (.int z14), some (.int v27), some (.int z41)] d_Rod_read_74 (by decide) rfl rfl ?_
                  refine V_aload_n 0 d_Rod_read_76 rfl rfl ?_
                  refine V_getR fa_Rod_12 sk_85 rfl d_Rod_read_77 ?_
                  refine V_aload d_Rod_read_80 rfl ?_
                  refine V_getR fa_Rod_303 sk_108 rfl d_Rod_read_82 ?_
                  refine V_iload d_Rod_read_85 rfl ?_
                  refine N_iald sk_109 z41E (by omega) d_Rod_read_87 (fun z42 z42Z z42E z42e => ?_)
                  refine V_aload d_Rod_read_88 rfl ?_
                  refine V_getR fa_Rod_303 sk_108 rfl d_Rod_read_90 ?_
                  refine V_iload d_Rod_read_93 rfl ?_
                  refine V_iconst 1 d_Rod_read_95 (by decide) ?_
                  refine V_iadd z41E tc_1 (by omega) d_Rod_read_96 (fun z43 z43e z43E => ?_)
                  refine N_iald sk_109 z43E (by omega) d_Rod_read_97 (fun z44 z44Z z44E z44e => ?_)
                  refine V_aload d_Rod_read_98 rfl ?_
                  refine V_getR fa_Rod_303 sk_108 rfl d_Rod_read_100 ?_
                  refine V_iload d_Rod_read_103 rfl ?_
                  refine V_iconst 2 d_Rod_read_105 (by decide) ?_
                  refine V_iadd z41E tc_2 (by omega) d_Rod_read_106 (fun z45 z45e z45E => ?_)
                  refine N_iald sk_109 z45E (by omega) d_Rod_read_107 (fun z46 z46Z z46E z46e => ?_)
                  obtain ⟨z47, z47Z, z47E, z47e⟩ : ∃ (y : Int32) (Y : Int), y.toInt = Y ∧ y = h28.1 1 0 := ⟨_, _, rfl, rfl⟩
                  have g48 : 2 ≤ z47Z ∧ z47Z ≤ 4 := inv_at Ih28 z47E z47e rfl
                  obtain ⟨z49, z49Z, z49E, z49e⟩ : ∃ (y : Int32) (Y : Int), y.toInt = Y ∧ y = h28.1 1 1 := ⟨_, _, rfl, rfl⟩
                  have g50 : 2 ≤ z49Z ∧ z49Z ≤ 4 := inv_at Ih28 z49E z49e rfl
                  refine N_callVI [.int z42, .int z44, .int z46] [] cv_Rod_227 sk_0 rfl d_Rod_read_108 rfl (Nat.le_of_ble_eq_true rfl) (by decide) (by decide) (c_County_boreBy_0 h28 Ih28 z42 z42Z z42E z44 z44Z z44E z46 z46Z z46E z47 z47Z z47E z47e.symm z49 z49Z z49E z49e.symm) (fun z51 h52 z51Z z51E p53 => ?_)
                  obtain ⟨hI54, fh52⟩ := p53
                  have f55 : fr S_Rod_readX h h52 := fr_call Fh28 fh52 rfl
                  have P56 : sp2 h h52 := sp2_fr sp9 fh52 rfl
                  refine V_if_ge 131 z51E d_Rod_read_111 (by decide) (fun c57 => ?_) (fun c57 => ?_)
                  ·
                    obtain ⟨z58, z58E, z58e⟩ : ∃ y : Int32, y.toInt = v27Z + 1 ∧ y = v27 + Int32.ofInt 1 := ⟨_, ti_add v27E (by decide) (by omega), rfl⟩
                    refine V_iinc 7 [some (.ref 85), some (.int k), some (.int l), some (.int f), some (.int n), some (.ref 108), some (.int z14), some (.int z58), some (.int z41)] d_Rod_read_131 rfl z58e.symm (by decide) rfl rfl ?_
                    refine V_goto 61 d_Rod_read_134 (by decide) ?_
                    refine V_drop 8 [some (.ref 85), some (.int k), some (.int l), some (.int f), some (.int n), some (.ref 108), some (.int z14), some (.int z58), none] rfl ?_
                    exact ihL25 z58 ((v27Z + 1)) h52 z58E hI54 f55 (by omega) P56 (by omega)
                  ·
                    refine V_aload_n 0 d_Rod_read_114 rfl rfl ?_
                    refine V_getR fa_Rod_12 sk_85 rfl d_Rod_read_115 ?_
                    refine V_aload_n 0 d_Rod_read_118 rfl rfl ?_
                    refine V_getR fa_Rod_16 sk_85 rfl d_Rod_read_119 ?_
                    obtain ⟨z59, z59Z, z59E, z59e⟩ : ∃ (y : Int32) (Y : Int), y.toInt = Y ∧ y = h52.1 17 3 := ⟨_, _, rfl, rfl⟩
                    obtain ⟨z60, z60Z, z60E, z60e⟩ : ∃ (y : Int32) (Y : Int), y.toInt = Y ∧ y = h52.1 17 4 := ⟨_, _, rfl, rfl⟩
                    refine N_callVV [.ref 17] [] cv_Rod_84 sk_0 rfl d_Rod_read_122 rfl (Nat.le_of_ble_eq_true rfl) (by decide) (by decide) (c_County_copyX_0_1 h52 hI54 z59 z59Z z59E z59e.symm z60 z60Z z60E z60e.symm) (fun h62 p63 => ?_)
                    obtain ⟨hI64, fh62, p63⟩ := p63
                    have f65 : fr S_Rod_readX h h62 := fr_call f55 fh62 rfl
                    have P66 : cA h h62 := sp2_back P56 p63
                    refine V_bipush (-20) d_Rod_read_125 (by decide) ?_
                    refine V_iload d_Rod_read_127 rfl ?_
                    refine V_isub tc_m20 v27E (by omega) d_Rod_read_129 (fun z67 z67e z67E => ?_)
                    exact V_iret rfl d_Rod_read_130 ⟨z67, rfl, ⟨hI64, f65, P66⟩⟩
            exact L25 (Int.toNat ((z14Z - 0 : Int) + 1)) 0 0 h20 tc_0 hI22 f23 (by omega) P24 (by omega)
          ·
            refine V_aald (r := 110) sk_107 (by decide) kE (by omega) (by rw [c11]; rfl) d_Rod_read_33 ?_
            refine V_astore 5 [some (.ref 85), some (.int k), some (.int l), some (.int f), some (.int n), some (.ref 110), none, none, none] d_Rod_read_34 (by decide) rfl rfl ?_
            refine V_aload d_Rod_read_36 rfl ?_
            refine V_iload_n 2 d_Rod_read_38 rfl rfl ?_
            refine V_iload_n 3 d_Rod_read_39 rfl rfl ?_
            refine V_iload d_Rod_read_40 rfl ?_
            obtain ⟨z68, z68Z, z68E, z68e⟩ : ∃ (y : Int32) (Y : Int), y.toInt = Y ∧ y = h.1 110 2 := ⟨_, _, rfl, rfl⟩
            have g69 : 0 ≤ z68Z ∧ z68Z ≤ 40 := inv_at hI z68E z68e rfl
            refine N_callVI [.int l, .int f, .int n] [] cv_Rod_300 sk_110 rfl d_Rod_read_42 rfl (Nat.le_of_ble_eq_true rfl) (by decide) (by decide) (c_Sheet_wholeBores_1 h hI l lZ lE f fZ fE n nZ nE z68 z68Z z68E z68e.symm (by omega)) (fun z70 h71 z70Z z70E p72 => ?_)
            obtain ⟨eh71, p72⟩ := p72
            subst eh71
            refine V_istore 6 [some (.ref 85), some (.int k), some (.int l), some (.int f), some (.int n), some (.ref 110), some (.int z70), none, none] d_Rod_read_45 (by decide) rfl rfl ?_
            refine V_aload_n 0 d_Rod_read_47 rfl rfl ?_
            refine V_getR fa_Rod_16 sk_85 rfl d_Rod_read_48 ?_
            refine V_aload_n 0 d_Rod_read_51 rfl rfl ?_
            refine V_getR fa_Rod_12 sk_85 rfl d_Rod_read_52 ?_
            obtain ⟨z73, z73Z, z73E, z73e⟩ : ∃ (y : Int32) (Y : Int), y.toInt = Y ∧ y = h.1 0 3 := ⟨_, _, rfl, rfl⟩
            obtain ⟨z74, z74Z, z74E, z74e⟩ : ∃ (y : Int32) (Y : Int), y.toInt = Y ∧ y = h.1 0 4 := ⟨_, _, rfl, rfl⟩
            refine N_callVV [.ref 0] [] cv_Rod_84 sk_17 rfl d_Rod_read_55 rfl (Nat.le_of_ble_eq_true rfl) (by decide) (by decide) (c_County_copyX_1_0 h hI z73 z73Z z73E z73e.symm z74 z74Z z74E z74e.symm) (fun h76 p77 => ?_)
            obtain ⟨hI78, fh76, p77⟩ := p77
            have f79 : fr S_Rod_readX h h76 := fr_call f0 fh76 rfl
            have P80 : sp2 h h76 := sp2_of p77 fh76 rfl
            refine V_iconst 0 d_Rod_read_58 (by decide) ?_
            refine V_istore 7 [some (.ref 85), some (.int k), some (.int l), some (.int f), some (.int n), some (.ref 110), some (.int z70), some (.int 0), none] d_Rod_read_59 (by decide) rfl rfl ?_
            have L81 : ∀ (nn : Nat) (v83 : Int32) (v83Z : Int) (h84 : Hp), v83.toInt = v83Z → Inv h84 → fr S_Rod_readX h h84 → 0 ≤ v83Z ∧ v83Z ≤ z70Z → sp2 h h84 → z70Z - v83Z < (nn : Int) → V R_Rod b_Rod_read 9 (some .int) 3 102 (q_Rod_readX h k kZ l lZ f fZ n nZ) h84 61 [some (.ref 85), some (.int k), some (.int l), some (.int f), some (.int n), some (.ref 110), some (.int z70), some (.int v83), none] [] := by
              intro nn
              induction nn with
              | zero => intro v83 v83Z h84 v83E Ih84 Fh84 q85 q86 hm87; exact absurd hm87 (by omega)
              | succ nn ihL81 =>
                intro v83 v83Z h84 v83E Ih84 Fh84 q85 q86 hm87
                have sp9 : sp2 h h84 := by assumption
                refine V_iload d_Rod_read_61 rfl ?_
                refine V_iload d_Rod_read_63 rfl ?_
                refine V_icmp_ge 137 v83E z70E d_Rod_read_65 (by decide) (fun c88 => ?_) (fun c88 => ?_)
                ·
                  refine V_aload_n 0 d_Rod_read_137 rfl rfl ?_
                  refine V_aload d_Rod_read_138 rfl ?_
                  refine V_iload_n 2 d_Rod_read_140 rfl rfl ?_
                  refine V_iload d_Rod_read_141 rfl ?_
                  refine V_iload d_Rod_read_143 rfl ?_
                  refine N_callVI [.int l, .int n, .int z70] [.ref 85] cv_Rod_306 sk_110 rfl d_Rod_read_145 rfl (Nat.le_of_ble_eq_true rfl) (by decide) (by decide) (c_Sheet_readFault_1 h84 Ih84 l lZ lE n nZ nE z70 z70Z z70E) (fun z89 h90 z89Z z89E p91 => ?_)
                  subst p91
                  refine N_putI fp_Rod_309 sk_85 rfl d_Rod_read_148 (fun h92 eh92 => ?_)
                  have hI93 : Inv h92 := inv_full Ih84 eh92 rfl
                  have f94 : fr S_Rod_readX h h92 := fr_put Fh84 eh92 rfl
                  have P95 : sp2 h h92 := sp2_put sp9 eh92 (by decide)
                  refine V_iload d_Rod_read_151 rfl ?_
                  exact V_iret rfl d_Rod_read_153 ⟨z70, rfl, ⟨hI93, f94, (sp2_c P95)⟩⟩
                ·
                  refine V_iload_n 3 d_Rod_read_68 rfl rfl ?_
                  refine V_iconst 3 d_Rod_read_69 (by decide) ?_
                  refine V_iload d_Rod_read_70 rfl ?_
                  refine V_imul tc_3 v83E (by omega) d_Rod_read_72 (fun z96 z96e z96E => ?_)
                  refine V_iadd fE z96E (by omega) d_Rod_read_73 (fun z97 z97e z97E => ?_)
                  refine V_istore 8 [some (.ref 85), some (.int k), some (.int l), some (.int f), some (.int n), some (.ref 110), some (.int z70), some (.int v83), some (.int z97)] d_Rod_read_74 (by decide) rfl rfl ?_
                  refine V_aload_n 0 d_Rod_read_76 rfl rfl ?_
                  refine V_getR fa_Rod_12 sk_85 rfl d_Rod_read_77 ?_
                  refine V_aload d_Rod_read_80 rfl ?_
                  refine V_getR fa_Rod_303 sk_110 rfl d_Rod_read_82 ?_
                  refine V_iload d_Rod_read_85 rfl ?_
                  refine N_iald sk_111 z97E (by omega) d_Rod_read_87 (fun z98 z98Z z98E z98e => ?_)
                  refine V_aload d_Rod_read_88 rfl ?_
                  refine V_getR fa_Rod_303 sk_110 rfl d_Rod_read_90 ?_
                  refine V_iload d_Rod_read_93 rfl ?_
                  refine V_iconst 1 d_Rod_read_95 (by decide) ?_
                  refine V_iadd z97E tc_1 (by omega) d_Rod_read_96 (fun z99 z99e z99E => ?_)
                  refine N_iald sk_111 z99E (by omega) d_Rod_read_97 (fun z100 z100Z z100E z100e => ?_)
                  refine V_aload d_Rod_read_98 rfl ?_
                  refine V_getR fa_Rod_303 sk_110 rfl d_Rod_read_100 ?_
                  refine V_iload d_Rod_read_103 rfl ?_
                  refine V_iconst 2 d_Rod_read_105 (by decide) ?_
                  refine V_iadd z97E tc_2 (by omega) d_Rod_read_106 (fun z101 z101e z101E => ?_)
                  refine N_iald sk_111 z101E (by omega) d_Rod_read_107 (fun z102 z102Z z102E z102e => ?_)
                  obtain ⟨z103, z103Z, z103E, z103e⟩ : ∃ (y : Int32) (Y : Int), y.toInt = Y ∧ y = h84.1 1 0 := ⟨_, _, rfl, rfl⟩
                  have g104 : 2 ≤ z103Z ∧ z103Z ≤ 4 := inv_at Ih84 z103E z103e rfl
                  obtain ⟨z105, z105Z, z105E, z105e⟩ : ∃ (y : Int32) (Y : Int), y.toInt = Y ∧ y = h84.1 1 1 := ⟨_, _, rfl, rfl⟩
                  have g106 : 2 ≤ z105Z ∧ z105Z ≤ 4 := inv_at Ih84 z105E z105e rfl
                  refine N_callVI [.int z98, .int z100, .int z102] [] cv_Rod_227 sk_0 rfl d_Rod_read_108 rfl (Nat.le_of_ble_eq_true rfl) (by decide) (by decide) (c_County_boreBy_0 h84 Ih84 z98 z98Z z98E z100 z100Z z100E z102 z102Z z102E z103 z103Z z103E z103e.symm z105 z105Z z105E z105e.symm) (fun z107 h108 z107Z z107E p109 => ?_)
                  obtain ⟨hI110, fh108⟩ := p109
                  have f111 : fr S_Rod_readX h h108 := fr_call Fh84 fh108 rfl
                  have P112 : sp2 h h108 := sp2_fr sp9 fh108 rfl
                  refine V_if_ge 131 z107E d_Rod_read_111 (by decide) (fun c113 => ?_) (fun c113 => ?_)
                  ·
                    obtain ⟨z114, z114E, z114e⟩ : ∃ y : Int32, y.toInt = v83Z + 1 ∧ y = v83 + Int32.ofInt 1 := ⟨_, ti_add v83E (by decide) (by omega), rfl⟩
                    refine V_iinc 7 [some (.ref 85), some (.int k), some (.int l), some (.int f), some (.int n), some (.ref 110), some (.int z70), some (.int z114), some (.int z97)] d_Rod_read_131 rfl z114e.symm (by decide) rfl rfl ?_
                    refine V_goto 61 d_Rod_read_134 (by decide) ?_
                    refine V_drop 8 [some (.ref 85), some (.int k), some (.int l), some (.int f), some (.int n), some (.ref 110), some (.int z70), some (.int z114), none] rfl ?_
                    exact ihL81 z114 ((v83Z + 1)) h108 z114E hI110 f111 (by omega) P112 (by omega)
                  ·
                    refine V_aload_n 0 d_Rod_read_114 rfl rfl ?_
                    refine V_getR fa_Rod_12 sk_85 rfl d_Rod_read_115 ?_
                    refine V_aload_n 0 d_Rod_read_118 rfl rfl ?_
                    refine V_getR fa_Rod_16 sk_85 rfl d_Rod_read_119 ?_
                    obtain ⟨z115, z115Z, z115E, z115e⟩ : ∃ (y : Int32) (Y : Int), y.toInt = Y ∧ y = h108.1 17 3 := ⟨_, _, rfl, rfl⟩
                    obtain ⟨z116, z116Z, z116E, z116e⟩ : ∃ (y : Int32) (Y : Int), y.toInt = Y ∧ y = h108.1 17 4 := ⟨_, _, rfl, rfl⟩
                    refine N_callVV [.ref 17] [] cv_Rod_84 sk_0 rfl d_Rod_read_122 rfl (Nat.le_of_ble_eq_true rfl) (by decide) (by decide) (c_County_copyX_0_1 h108 hI110 z115 z115Z z115E z115e.symm z116 z116Z z116E z116e.symm) (fun h118 p119 => ?_)
                    obtain ⟨hI120, fh118, p119⟩ := p119
                    have f121 : fr S_Rod_readX h h118 := fr_call f111 fh118 rfl
                    have P122 : cA h h118 := sp2_back P112 p119
                    refine V_bipush (-20) d_Rod_read_125 (by decide) ?_
                    refine V_iload d_Rod_read_127 rfl ?_
                    refine V_isub tc_m20 v83E (by omega) d_Rod_read_129 (fun z123 z123e z123E => ?_)
                    exact V_iret rfl d_Rod_read_130 ⟨z123, rfl, ⟨hI120, f121, P122⟩⟩
            exact L81 (Int.toNat ((z70Z - 0 : Int) + 1)) 0 0 h76 tc_0 hI78 f79 (by omega) P80 (by omega)
          ·
            refine V_aald (r := 112) sk_107 (by decide) kE (by omega) (by rw [c11]; rfl) d_Rod_read_33 ?_
            refine V_astore 5 [some (.ref 85), some (.int k), some (.int l), some (.int f), some (.int n), some (.ref 112), none, none, none] d_Rod_read_34 (by decide) rfl rfl ?_
            refine V_aload d_Rod_read_36 rfl ?_
            refine V_iload_n 2 d_Rod_read_38 rfl rfl ?_
            refine V_iload_n 3 d_Rod_read_39 rfl rfl ?_
            refine V_iload d_Rod_read_40 rfl ?_
            obtain ⟨z124, z124Z, z124E, z124e⟩ : ∃ (y : Int32) (Y : Int), y.toInt = Y ∧ y = h.1 112 2 := ⟨_, _, rfl, rfl⟩
            have g125 : 0 ≤ z124Z ∧ z124Z ≤ 40 := inv_at hI z124E z124e rfl
            refine N_callVI [.int l, .int f, .int n] [] cv_Rod_300 sk_112 rfl d_Rod_read_42 rfl (Nat.le_of_ble_eq_true rfl) (by decide) (by decide) (c_Sheet_wholeBores_2 h hI l lZ lE f fZ fE n nZ nE z124 z124Z z124E z124e.symm (by omega)) (fun z126 h127 z126Z z126E p128 => ?_)
            obtain ⟨eh127, p128⟩ := p128
            subst eh127
            refine V_istore 6 [some (.ref 85), some (.int k), some (.int l), some (.int f), some (.int n), some (.ref 112), some (.int z126), none, none] d_Rod_read_45 (by decide) rfl rfl ?_
            refine V_aload_n 0 d_Rod_read_47 rfl rfl ?_
            refine V_getR fa_Rod_16 sk_85 rfl d_Rod_read_48 ?_
            refine V_aload_n 0 d_Rod_read_51 rfl rfl ?_
            refine V_getR fa_Rod_12 sk_85 rfl d_Rod_read_52 ?_
            obtain ⟨z129, z129Z, z129E, z129e⟩ : ∃ (y : Int32) (Y : Int), y.toInt = Y ∧ y = h.1 0 3 := ⟨_, _, rfl, rfl⟩
            obtain ⟨z130, z130Z, z130E, z130e⟩ : ∃ (y : Int32) (Y : Int), y.toInt = Y ∧ y = h.1 0 4 := ⟨_, _, rfl, rfl⟩
            refine N_callVV [.ref 0] [] cv_Rod_84 sk_17 rfl d_Rod_read_55 rfl (Nat.le_of_ble_eq_true rfl) (by decide) (by decide) (c_County_copyX_1_0 h hI z129 z129Z z129E z129e.symm z130 z130Z z130E z130e.symm) (fun h132 p133 => ?_)
            obtain ⟨hI134, fh132, p133⟩ := p133
            have f135 : fr S_Rod_readX h h132 := fr_call f0 fh132 rfl
            have P136 : sp2 h h132 := sp2_of p133 fh132 rfl
            refine V_iconst 0 d_Rod_read_58 (by decide) ?_
            refine V_istore 7 [some (.ref 85), some (.int k), some (.int l), some (.int f), some (.int n), some (.ref 112), some (.int z126), some (.int 0), none] d_Rod_read_59 (by decide) rfl rfl ?_
            have L137 : ∀ (nn : Nat) (v139 : Int32) (v139Z : Int) (h140 : Hp), v139.toInt = v139Z → Inv h140 → fr S_Rod_readX h h140 → 0 ≤ v139Z ∧ v139Z ≤ z126Z → sp2 h h140 → z126Z - v139Z < (nn : Int) → V R_Rod b_Rod_read 9 (some .int) 3 102 (q_Rod_readX h k kZ l lZ f fZ n nZ) h140 61 [some (.ref 85), some (.int k), some (.int l), some (.int f), some (.int n), some (.ref 112), some (.int z126), some (.int v139), none] [] := by
              intro nn
              induction nn with
              | zero => intro v139 v139Z h140 v139E Ih140 Fh140 q141 q142 hm143; exact absurd hm143 (by omega)
              | succ nn ihL137 =>
                intro v139 v139Z h140 v139E Ih140 Fh140 q141 q142 hm143
                have sp9 : sp2 h h140 := by assumption
                refine V_iload d_Rod_read_61 rfl ?_
                refine V_iload d_Rod_read_63 rfl ?_
                refine V_icmp_ge 137 v139E z126E d_Rod_read_65 (by decide) (fun c144 => ?_) (fun c144 => ?_)
                ·
                  refine V_aload_n 0 d_Rod_read_137 rfl rfl ?_
                  refine V_aload d_Rod_read_138 rfl ?_
                  refine V_iload_n 2 d_Rod_read_140 rfl rfl ?_
                  refine V_iload d_Rod_read_141 rfl ?_
                  refine V_iload d_Rod_read_143 rfl ?_
                  refine N_callVI [.int l, .int n, .int z126] [.ref 85] cv_Rod_306 sk_112 rfl d_Rod_read_145 rfl (Nat.le_of_ble_eq_true rfl) (by decide) (by decide) (c_Sheet_readFault_2 h140 Ih140 l lZ lE n nZ nE z126 z126Z z126E) (fun z145 h146 z145Z z145E p147 => ?_)
                  subst p147
                  refine N_putI fp_Rod_309 sk_85 rfl d_Rod_read_148 (fun h148 eh148 => ?_)
                  have hI149 : Inv h148 := inv_full Ih140 eh148 rfl
                  have f150 : fr S_Rod_readX h h148 := fr_put Fh140 eh148 rfl
                  have P151 : sp2 h h148 := sp2_put sp9 eh148 (by decide)
                  refine V_iload d_Rod_read_151 rfl ?_
                  exact V_iret rfl d_Rod_read_153 ⟨z126, rfl, ⟨hI149, f150, (sp2_c P151)⟩⟩
                ·
                  refine V_iload_n 3 d_Rod_read_68 rfl rfl ?_
                  refine V_iconst 3 d_Rod_read_69 (by decide) ?_
                  refine V_iload d_Rod_read_70 rfl ?_
                  refine V_imul tc_3 v139E (by omega) d_Rod_read_72 (fun z152 z152e z152E => ?_)
                  refine V_iadd fE z152E (by omega) d_Rod_read_73 (fun z153 z153e z153E => ?_)
                  refine V_istore 8 [some (.ref 85), some (.int k), some (.int l), some (.int f), some (.int n), some (.ref 112), some (.int z126), some (.int v139), some (.int z153)] d_Rod_read_74 (by decide) rfl rfl ?_
                  refine V_aload_n 0 d_Rod_read_76 rfl rfl ?_
                  refine V_getR fa_Rod_12 sk_85 rfl d_Rod_read_77 ?_
                  refine V_aload d_Rod_read_80 rfl ?_
                  refine V_getR fa_Rod_303 sk_112 rfl d_Rod_read_82 ?_
                  refine V_iload d_Rod_read_85 rfl ?_
                  refine N_iald sk_113 z153E (by omega) d_Rod_read_87 (fun z154 z154Z z154E z154e => ?_)
                  refine V_aload d_Rod_read_88 rfl ?_
                  refine V_getR fa_Rod_303 sk_112 rfl d_Rod_read_90 ?_
                  refine V_iload d_Rod_read_93 rfl ?_
                  refine V_iconst 1 d_Rod_read_95 (by decide) ?_
                  refine V_iadd z153E tc_1 (by omega) d_Rod_read_96 (fun z155 z155e z155E => ?_)
                  refine N_iald sk_113 z155E (by omega) d_Rod_read_97 (fun z156 z156Z z156E z156e => ?_)
                  refine V_aload d_Rod_read_98 rfl ?_
                  refine V_getR fa_Rod_303 sk_112 rfl d_Rod_read_100 ?_
                  refine V_iload d_Rod_read_103 rfl ?_
                  refine V_iconst 2 d_Rod_read_105 (by decide) ?_
                  refine V_iadd z153E tc_2 (by omega) d_Rod_read_106 (fun z157 z157e z157E => ?_)
                  refine N_iald sk_113 z157E (by omega) d_Rod_read_107 (fun z158 z158Z z158E z158e => ?_)
                  obtain ⟨z159, z159Z, z159E, z159e⟩ : ∃ (y : Int32) (Y : Int), y.toInt = Y ∧ y = h140.1 1 0 := ⟨_, _, rfl, rfl⟩
                  have g160 : 2 ≤ z159Z ∧ z159Z ≤ 4 := inv_at Ih140 z159E z159e rfl
                  obtain ⟨z161, z161Z, z161E, z161e⟩ : ∃ (y : Int32) (Y : Int), y.toInt = Y ∧ y = h140.1 1 1 := ⟨_, _, rfl, rfl⟩
                  have g162 : 2 ≤ z161Z ∧ z161Z ≤ 4 := inv_at Ih140 z161E z161e rfl
                  refine N_callVI [.int z154, .int z156, .int z158] [] cv_Rod_227 sk_0 rfl d_Rod_read_108 rfl (Nat.le_of_ble_eq_true rfl) (by decide) (by decide) (c_County_boreBy_0 h140 Ih140 z154 z154Z z154E z156 z156Z z156E z158 z158Z z158E z159 z159Z z159E z159e.symm z161 z161Z z161E z161e.symm) (fun z163 h164 z163Z z163E p165 => ?_)
                  obtain ⟨hI166, fh164⟩ := p165
                  have f167 : fr S_Rod_readX h h164 := fr_call Fh140 fh164 rfl
                  have P168 : sp2 h h164 := sp2_fr sp9 fh164 rfl
                  refine V_if_ge 131 z163E d_Rod_read_111 (by decide) (fun c169 => ?_) (fun c169 => ?_)
                  ·
                    obtain ⟨z170, z170E, z170e⟩ : ∃ y : Int32, y.toInt = v139Z + 1 ∧ y = v139 + Int32.ofInt 1 := ⟨_, ti_add v139E (by decide) (by omega), rfl⟩
                    refine V_iinc 7 [some (.ref 85), some (.int k), some (.int l), some (.int f), some (.int n), some (.ref 112), some (.int z126), some (.int z170), some (.int z153)] d_Rod_read_131 rfl z170e.symm (by decide) rfl rfl ?_
                    refine V_goto 61 d_Rod_read_134 (by decide) ?_
                    refine V_drop 8 [some (.ref 85), some (.int k), some (.int l), some (.int f), some (.int n), some (.ref 112), some (.int z126), some (.int z170), none] rfl ?_
                    exact ihL137 z170 ((v139Z + 1)) h164 z170E hI166 f167 (by omega) P168 (by omega)
                  ·
                    refine V_aload_n 0 d_Rod_read_114 rfl rfl ?_
                    refine V_getR fa_Rod_12 sk_85 rfl d_Rod_read_115 ?_
                    refine V_aload_n 0 d_Rod_read_118 rfl rfl ?_
                    refine V_getR fa_Rod_16 sk_85 rfl d_Rod_read_119 ?_
                    obtain ⟨z171, z171Z, z171E, z171e⟩ : ∃ (y : Int32) (Y : Int), y.toInt = Y ∧ y = h164.1 17 3 := ⟨_, _, rfl, rfl⟩
                    obtain ⟨z172, z172Z, z172E, z172e⟩ : ∃ (y : Int32) (Y : Int), y.toInt = Y ∧ y = h164.1 17 4 := ⟨_, _, rfl, rfl⟩
                    refine N_callVV [.ref 17] [] cv_Rod_84 sk_0 rfl d_Rod_read_122 rfl (Nat.le_of_ble_eq_true rfl) (by decide) (by decide) (c_County_copyX_0_1 h164 hI166 z171 z171Z z171E z171e.symm z172 z172Z z172E z172e.symm) (fun h174 p175 => ?_)
                    obtain ⟨hI176, fh174, p175⟩ := p175
                    have f177 : fr S_Rod_readX h h174 := fr_call f167 fh174 rfl
                    have P178 : cA h h174 := sp2_back P168 p175
                    refine V_bipush (-20) d_Rod_read_125 (by decide) ?_
                    refine V_iload d_Rod_read_127 rfl ?_
                    refine V_isub tc_m20 v139E (by omega) d_Rod_read_129 (fun z179 z179e z179E => ?_)
                    exact V_iret rfl d_Rod_read_130 ⟨z179, rfl, ⟨hI176, f177, P178⟩⟩
            exact L137 (Int.toNat ((z126Z - 0 : Int) + 1)) 0 0 h132 tc_0 hI134 f135 (by omega) P136 (by omega)
          ·
            refine V_aald (r := 114) sk_107 (by decide) kE (by omega) (by rw [c11]; rfl) d_Rod_read_33 ?_
            refine V_astore 5 [some (.ref 85), some (.int k), some (.int l), some (.int f), some (.int n), some (.ref 114), none, none, none] d_Rod_read_34 (by decide) rfl rfl ?_
            refine V_aload d_Rod_read_36 rfl ?_
            refine V_iload_n 2 d_Rod_read_38 rfl rfl ?_
            refine V_iload_n 3 d_Rod_read_39 rfl rfl ?_
            refine V_iload d_Rod_read_40 rfl ?_
            obtain ⟨z180, z180Z, z180E, z180e⟩ : ∃ (y : Int32) (Y : Int), y.toInt = Y ∧ y = h.1 114 2 := ⟨_, _, rfl, rfl⟩
            have g181 : 0 ≤ z180Z ∧ z180Z ≤ 40 := inv_at hI z180E z180e rfl
            refine N_callVI [.int l, .int f, .int n] [] cv_Rod_300 sk_114 rfl d_Rod_read_42 rfl (Nat.le_of_ble_eq_true rfl) (by decide) (by decide) (c_Sheet_wholeBores_3 h hI l lZ lE f fZ fE n nZ nE z180 z180Z z180E z180e.symm (by omega)) (fun z182 h183 z182Z z182E p184 => ?_)
            obtain ⟨eh183, p184⟩ := p184
            subst eh183
            refine V_istore 6 [some (.ref 85), some (.int k), some (.int l), some (.int f), some (.int n), some (.ref 114), some (.int z182), none, none] d_Rod_read_45 (by decide) rfl rfl ?_
            refine V_aload_n 0 d_Rod_read_47 rfl rfl ?_
            refine V_getR fa_Rod_16 sk_85 rfl d_Rod_read_48 ?_
            refine V_aload_n 0 d_Rod_read_51 rfl rfl ?_
            refine V_getR fa_Rod_12 sk_85 rfl d_Rod_read_52 ?_
            obtain ⟨z185, z185Z, z185E, z185e⟩ : ∃ (y : Int32) (Y : Int), y.toInt = Y ∧ y = h.1 0 3 := ⟨_, _, rfl, rfl⟩
            obtain ⟨z186, z186Z, z186E, z186e⟩ : ∃ (y : Int32) (Y : Int), y.toInt = Y ∧ y = h.1 0 4 := ⟨_, _, rfl, rfl⟩
            refine N_callVV [.ref 0] [] cv_Rod_84 sk_17 rfl d_Rod_read_55 rfl (Nat.le_of_ble_eq_true rfl) (by decide) (by decide) (c_County_copyX_1_0 h hI z185 z185Z z185E z185e.symm z186 z186Z z186E z186e.symm) (fun h188 p189 => ?_)
            obtain ⟨hI190, fh188, p189⟩ := p189
            have f191 : fr S_Rod_readX h h188 := fr_call f0 fh188 rfl
            have P192 : sp2 h h188 := sp2_of p189 fh188 rfl
            refine V_iconst 0 d_Rod_read_58 (by decide) ?_
            refine V_istore 7 [some (.ref 85), some (.int k), some (.int l), some (.int f), some (.int n), some (.ref 114), some (.int z182), some (.int 0), none] d_Rod_read_59 (by decide) rfl rfl ?_
            have L193 : ∀ (nn : Nat) (v195 : Int32) (v195Z : Int) (h196 : Hp), v195.toInt = v195Z → Inv h196 → fr S_Rod_readX h h196 → 0 ≤ v195Z ∧ v195Z ≤ z182Z → sp2 h h196 → z182Z - v195Z < (nn : Int) → V R_Rod b_Rod_read 9 (some .int) 3 102 (q_Rod_readX h k kZ l lZ f fZ n nZ) h196 61 [some (.ref 85), some (.int k), some (.int l), some (.int f), some (.int n), some (.ref 114), some (.int z182), some (.int v195), none] [] := by
              intro nn
              induction nn with
              | zero => intro v195 v195Z h196 v195E Ih196 Fh196 q197 q198 hm199; exact absurd hm199 (by omega)
              | succ nn ihL193 =>
                intro v195 v195Z h196 v195E Ih196 Fh196 q197 q198 hm199
                have sp9 : sp2 h h196 := by assumption
                refine V_iload d_Rod_read_61 rfl ?_
                refine V_iload d_Rod_read_63 rfl ?_
                refine V_icmp_ge 137 v195E z182E d_Rod_read_65 (by decide) (fun c200 => ?_) (fun c200 => ?_)
                ·
                  refine V_aload_n 0 d_Rod_read_137 rfl rfl ?_
                  refine V_aload d_Rod_read_138 rfl ?_
                  refine V_iload_n 2 d_Rod_read_140 rfl rfl ?_
                  refine V_iload d_Rod_read_141 rfl ?_
                  refine V_iload d_Rod_read_143 rfl ?_
                  refine N_callVI [.int l, .int n, .int z182] [.ref 85] cv_Rod_306 sk_114 rfl d_Rod_read_145 rfl (Nat.le_of_ble_eq_true rfl) (by decide) (by decide) (c_Sheet_readFault_3 h196 Ih196 l lZ lE n nZ nE z182 z182Z z182E) (fun z201 h202 z201Z z201E p203 => ?_)
                  subst p203
                  refine N_putI fp_Rod_309 sk_85 rfl d_Rod_read_148 (fun h204 eh204 => ?_)
                  have hI205 : Inv h204 := inv_full Ih196 eh204 rfl
                  have f206 : fr S_Rod_readX h h204 := fr_put Fh196 eh204 rfl
                  have P207 : sp2 h h204 := sp2_put sp9 eh204 (by decide)
                  refine V_iload d_Rod_read_151 rfl ?_
                  exact V_iret rfl d_Rod_read_153 ⟨z182, rfl, ⟨hI205, f206, (sp2_c P207)⟩⟩
                ·
                  refine V_iload_n 3 d_Rod_read_68 rfl rfl ?_
                  refine V_iconst 3 d_Rod_read_69 (by decide) ?_
                  refine V_iload d_Rod_read_70 rfl ?_
                  refine V_imul tc_3 v195E (by omega) d_Rod_read_72 (fun z208 z208e z208E => ?_)
                  refine V_iadd fE z208E (by omega) d_Rod_read_73 (fun z209 z209e z209E => ?_)
                  refine V_istore 8 [some (.ref 85), some (.int k), some (.int l), some (.int f), some (.int n), some (.ref 114), some (.int z182), some (.int v195), some (.int z209)] d_Rod_read_74 (by decide) rfl rfl ?_
                  refine V_aload_n 0 d_Rod_read_76 rfl rfl ?_
                  refine V_getR fa_Rod_12 sk_85 rfl d_Rod_read_77 ?_
                  refine V_aload d_Rod_read_80 rfl ?_
                  refine V_getR fa_Rod_303 sk_114 rfl d_Rod_read_82 ?_
                  refine V_iload d_Rod_read_85 rfl ?_
                  refine N_iald sk_115 z209E (by omega) d_Rod_read_87 (fun z210 z210Z z210E z210e => ?_)
                  refine V_aload d_Rod_read_88 rfl ?_
                  refine V_getR fa_Rod_303 sk_114 rfl d_Rod_read_90 ?_
                  refine V_iload d_Rod_read_93 rfl ?_
                  refine V_iconst 1 d_Rod_read_95 (by decide) ?_
                  refine V_iadd z209E tc_1 (by omega) d_Rod_read_96 (fun z211 z211e z211E => ?_)
                  refine N_iald sk_115 z211E (by omega) d_Rod_read_97 (fun z212 z212Z z212E z212e => ?_)
                  refine V_aload d_Rod_read_98 rfl ?_
                  refine V_getR fa_Rod_303 sk_114 rfl d_Rod_read_100 ?_
                  refine V_iload d_Rod_read_103 rfl ?_
                  refine V_iconst 2 d_Rod_read_105 (by decide) ?_
                  refine V_iadd z209E tc_2 (by omega) d_Rod_read_106 (fun z213 z213e z213E => ?_)
                  refine N_iald sk_115 z213E (by omega) d_Rod_read_107 (fun z214 z214Z z214E z214e => ?_)
                  obtain ⟨z215, z215Z, z215E, z215e⟩ : ∃ (y : Int32) (Y : Int), y.toInt = Y ∧ y = h196.1 1 0 := ⟨_, _, rfl, rfl⟩
                  have g216 : 2 ≤ z215Z ∧ z215Z ≤ 4 := inv_at Ih196 z215E z215e rfl
                  obtain ⟨z217, z217Z, z217E, z217e⟩ : ∃ (y : Int32) (Y : Int), y.toInt = Y ∧ y = h196.1 1 1 := ⟨_, _, rfl, rfl⟩
                  have g218 : 2 ≤ z217Z ∧ z217Z ≤ 4 := inv_at Ih196 z217E z217e rfl
                  refine N_callVI [.int z210, .int z212, .int z214] [] cv_Rod_227 sk_0 rfl d_Rod_read_108 rfl (Nat.le_of_ble_eq_true rfl) (by decide) (by decide) (c_County_boreBy_0 h196 Ih196 z210 z210Z z210E z212 z212Z z212E z214 z214Z z214E z215 z215Z z215E z215e.symm z217 z217Z z217E z217e.symm) (fun z219 h220 z219Z z219E p221 => ?_)
                  obtain ⟨hI222, fh220⟩ := p221
                  have f223 : fr S_Rod_readX h h220 := fr_call Fh196 fh220 rfl
                  have P224 : sp2 h h220 := sp2_fr sp9 fh220 rfl
                  refine V_if_ge 131 z219E d_Rod_read_111 (by decide) (fun c225 => ?_) (fun c225 => ?_)
                  ·
                    obtain ⟨z226, z226E, z226e⟩ : ∃ y : Int32, y.toInt = v195Z + 1 ∧ y = v195 + Int32.ofInt 1 := ⟨_, ti_add v195E (by decide) (by omega), rfl⟩
                    refine V_iinc 7 [some (.ref 85), some (.int k), some (.int l), some (.int f), some (.int n), some (.ref 114), some (.int z182), some (.int z226), some (.int z209)] d_Rod_read_131 rfl z226e.symm (by decide) rfl rfl ?_
                    refine V_goto 61 d_Rod_read_134 (by decide) ?_
                    refine V_drop 8 [some (.ref 85), some (.int k), some (.int l), some (.int f), some (.int n), some (.ref 114), some (.int z182), some (.int z226), none] rfl ?_
                    exact ihL193 z226 ((v195Z + 1)) h220 z226E hI222 f223 (by omega) P224 (by omega)
                  ·
                    refine V_aload_n 0 d_Rod_read_114 rfl rfl ?_
                    refine V_getR fa_Rod_12 sk_85 rfl d_Rod_read_115 ?_
                    refine V_aload_n 0 d_Rod_read_118 rfl rfl ?_
                    refine V_getR fa_Rod_16 sk_85 rfl d_Rod_read_119 ?_
                    obtain ⟨z227, z227Z, z227E, z227e⟩ : ∃ (y : Int32) (Y : Int), y.toInt = Y ∧ y = h220.1 17 3 := ⟨_, _, rfl, rfl⟩
                    obtain ⟨z228, z228Z, z228E, z228e⟩ : ∃ (y : Int32) (Y : Int), y.toInt = Y ∧ y = h220.1 17 4 := ⟨_, _, rfl, rfl⟩
                    refine N_callVV [.ref 17] [] cv_Rod_84 sk_0 rfl d_Rod_read_122 rfl (Nat.le_of_ble_eq_true rfl) (by decide) (by decide) (c_County_copyX_0_1 h220 hI222 z227 z227Z z227E z227e.symm z228 z228Z z228E z228e.symm) (fun h230 p231 => ?_)
                    obtain ⟨hI232, fh230, p231⟩ := p231
                    have f233 : fr S_Rod_readX h h230 := fr_call f223 fh230 rfl
                    have P234 : cA h h230 := sp2_back P224 p231
                    refine V_bipush (-20) d_Rod_read_125 (by decide) ?_
                    refine V_iload d_Rod_read_127 rfl ?_
                    refine V_isub tc_m20 v195E (by omega) d_Rod_read_129 (fun z235 z235e z235E => ?_)
                    exact V_iret rfl d_Rod_read_130 ⟨z235, rfl, ⟨hI232, f233, P234⟩⟩
            exact L193 (Int.toNat ((z182Z - 0 : Int) + 1)) 0 0 h188 tc_0 hI190 f191 (by omega) P192 (by omega)
        ·
          refine V_iconst (-1) d_Rod_read_26 (by decide) ?_
          exact V_iret rfl d_Rod_read_27 ⟨(-1), rfl, ⟨hI, f0, (fun _ _ _ _ => rfl)⟩⟩
end
section
theorem x_D_111 {b : Int → Int} {T : Nat → Int → Int} {D : Nat → Int} {p : Int} (h : (x_line b T (D 86) p).1 = 0) (g : x_good D) : x_D b D p 111 = D 111 := by
  have hH : x_cH b T (D 86) p = 0 := (x_sq_0 h).1
  have hs := x_cH_s b T (D 86) p
  have hb := x_ln_b b (x_fr b p) (x_en b p)
  have hl : x_li b p = 0 ∨ x_li b p = 1 ∨ x_li b p = 2 ∨ x_li b p = 3 ∨ x_li b p = 4 ∨ x_li b p = 5 ∨ x_li b p = 6 ∨ x_li b p = 7 ∨ x_li b p = 8 ∨ x_li b p = 9 := by
    have e : x_li b p = x_ln b (x_fr b p) (x_en b p) := rfl
    have h2 : x_li b p ≠ -1 := by
      rcases hs with q | q | q | q | q | q
      · exact absurd (q.2.symm.trans hH) (by decide)
      · exact absurd (q.2.2.symm.trans hH) (by decide)
      · exact absurd (q.2.2.symm.trans hH) (by decide)
      · exact q.2.1
      · omega
      · exact q.2.1
    omega
  rcases hl with hl | hl | hl | hl | hl | hl | hl | hl | hl | hl
  · rw [x_line_0 rfl hH hl] at h
    rw [x_D_0 D rfl hl]
    rw [x_up_n (i := 111) (by decide), x_up_n (i := 111) (by decide)]
  · rw [x_line_1 rfl hH hl] at h
    rw [x_D_1 D rfl hl]
    unfold x_l1 at h
    have h1 := x_sq_0 h
    have a1 := x_cN_s b (x_en b p) 0 15
    exact x_up_n (by omega)
  · rw [x_line_2 rfl hH hl] at h
    rw [x_D_2 D rfl hl]
    unfold x_l2 at h
    have h1 := x_sq_0 h
    have a1 := x_cN_s b (x_en b p) 0 15
    exact x_up_n (by omega)
  · rw [x_line_3 rfl hH hl] at h
    rw [x_D_3 D rfl hl]
    unfold x_l3 at h
    have h1 := x_sq_0 h
    have a1 := x_cN_s b (x_en b p) 0 15
    exact x_up_n (by omega)
  · rw [x_line_4 rfl hH hl] at h
    rw [x_D_4 D rfl hl]
    unfold x_l4 at h
    have h1 := x_sq_0 h
    have a1 := x_cN_s b (x_en b p) 0 15
    exact x_up_n (by omega)
  · rw [x_line_5 rfl hH hl] at h
    rw [x_D_5 D rfl hl]
    unfold x_l5 at h
    have h1 := x_sq_0 h
    have a1 := x_cN_s b (x_en b p) 0 3
    exact x_up_n (by omega)
  · rw [x_line_6 rfl hH hl] at h
    rw [x_D_6 D rfl hl]
    exact x_up_n (by decide)
  · rw [x_line_7 rfl hH hl] at h
    rw [x_D_7 D rfl hl]
    exact x_up_n (by decide)
  · rw [x_line_8 rfl hH hl] at h
    rw [x_D_8 D rfl hl]
    rw [x_up_n (i := 111) (by decide), x_up_n (i := 111) (by decide)]
  · rw [x_line_9 rfl hH hl] at h
    rw [x_D_9 D rfl hl]
    have hm : D 86 < 8 := by
      rcases hs with q | q | q | q | q | q
      · exact absurd (q.2.symm.trans hH) (by decide)
      · exact absurd (q.2.2.symm.trans hH) (by decide)
      · exact absurd (q.2.2.symm.trans hH) (by decide)
      · exact absurd (q.2.2.2.symm.trans hH) (by decide)
      · exact absurd (q.2.2.2.symm.trans hH) (by decide)
      · omega
    unfold x_good at g
    rw [x_up_n (i := 111) (by omega), x_up_n (i := 111) (by omega), x_up_n (i := 111) (by omega), x_up_n (i := 111) (by omega)]
theorem x_111 {b : Int → Int} : ∀ k : Nat, x_ok b k → (x_st b k).2.1 111 = 0 := by
  intro k
  induction k with
  | zero => intro _; rfl
  | succ k ih => intro h; exact (x_D_111 (h k (by omega)).2 (x_good_k k (fun j hj => h j (by omega)))).trans (ih (fun j hj => h j (by omega)))
def TC (h : Hp) (D : Nat → Int) : Prop := (∀ k i d : Nat, dof (68 + k) i = some d → (h.1 k i).toInt = D d) ∧ ∀ i : Nat, i < 8 → (i : Int) < D 86 → (h.1 9 i).toInt = D (87 + 3 * i) ∧ (h.1 10 i).toInt = D (88 + 3 * i) ∧ (h.1 11 i).toInt = D (89 + 3 * i)
def TK (h h' : Hp) (e : Int) (D : Nat → Int) : Prop := e = 0 ∧ TC h' D ∧ h'.1 87 0 = 0 ∧ h'.1 87 1 = 0 ∨ e ≠ 0 ∧ ∀ k i : Nat, k ≤ 16 ∨ k = 87 → h'.1 k i = h.1 k i
theorem TC_of {h h1 : Hp} {T : Nat → Int → Int} {D : Nat → Int} (r : RC h T D) (c : cpy h h1 0 68) : TC h1 D := by
  refine ⟨fun k i d hd => ?_, fun i hi hc => ?_⟩
  · have g := c k i (dof_c hd).1
    rw [Nat.zero_add] at g
    rw [g]
    exact r.2.1 _ i d hd
  · have g9 := c 9 i (by unfold cpl; omega)
    have g10 := c 10 i (by unfold cpl; omega)
    have g11 := c 11 i (by unfold cpl; omega)
    rw [Nat.zero_add] at g9 g10 g11
    rw [g9, g10, g11]
    exact r.2.2 i hc
theorem TC_ne {h h1 : Hp} {D : Nat → Int} {k' i' : Nat} {x : Int32} (r : TC h D) (e : h1 = pI h k' i' x) (hk : 16 < k') : TC h1 D := by
  refine ⟨fun k i d hd => ?_, fun i hi hc => ?_⟩
  · have := cpl_k (dof_c hd).1
    rw [e, pI_at, if_neg (by omega)]
    exact r.1 k i d hd
  · rw [e, pI_at, if_neg (by omega), pI_at, if_neg (by omega), pI_at, if_neg (by omega)]
    exact r.2 i hi hc
def SC (h h' : Hp) : Prop := ∀ k i : Nat, k ≤ 16 ∨ k = 87 → h'.1 k i = h.1 k i
theorem SC_rf {h : Hp} : SC h h := fun _ _ _ => rfl
theorem SC_fr {S : List (Nat × Option Nat)} {h h1 h2 : Hp} (r : SC h h1) (f : fr S h1 h2) (c1 : ckS S 0 16 = true) (c2 : ckS S 87 87 = true) : SC h h2 := fun k i hk => by
  have : inS S k i = false := by
    rcases hk with hk | hk
    · exact ckS_no c1 (by omega) hk
    · exact ckS_no c2 (by omega) (by omega)
  rw [f.1 k i this]
  exact r k i hk
theorem SC_ne {h h1 h2 : Hp} {k' i' : Nat} {x : Int32} (r : SC h h1) (e : h2 = pI h1 k' i' x) (hk : 16 < k' ∧ k' ≠ 87) : SC h h2 := fun k i h3 => by
  rw [e, pI_at, if_neg (by omega)]
  exact r k i h3
theorem JA_new {h : Hp} {D : Nat → Int} (c : TC h D) (m : MC h D) (h111 : D 111 = 0) (k0 : h.1 87 0 = 0) (k1 : h.1 87 1 = 0) (l0 : h.1 118 0 = 0) (l1 : h.1 118 1 = 0) : JA h := by
  obtain ⟨m1, m2, m3, m4, m5⟩ := m
  refine ⟨⟨fun k i d hd ha => ?_, fun i hi hc => ?_, fun i hi hc => ?_⟩, ⟨by rw [k0, l0], by rw [k1, l1]⟩, fun q => absurd k0 q, fun q => absurd k1 q⟩
  · have q := dof_c hd
    rw [Nat.zero_add]
    refine Int32.toInt_inj.mp ?_
    rw [c.1 k i d hd]
    by_cases w : d < 144
    · rw [mK_lt w, mJ_lt w, Nat.zero_add]
      exact (m1 d w).symm
    · rw [mK_ge w, mJ_ge w]
      rcases (by omega : d = 144 ∨ d = 145 ∨ d = 146 ∨ d = 147) with rfl | rfl | rfl | rfl
      · exact m2.symm
      · exact m3.symm
      · exact m4.symm
      · exact m5.symm
  · rw [Nat.zero_add, c.1 7 4 86 rfl] at hc
    obtain ⟨a1, a2, a3⟩ := c.2 i hi hc
    rw [Nat.zero_add, Nat.zero_add, Nat.zero_add, Nat.zero_add, Nat.zero_add, Nat.zero_add]
    exact ⟨Int32.toInt_inj.mp (a1.trans (m1 _ (by omega)).symm), Int32.toInt_inj.mp (a2.trans (m1 _ (by omega)).symm), Int32.toInt_inj.mp (a3.trans (m1 _ (by omega)).symm)⟩
  · rw [Nat.zero_add, c.1 12 4 111 rfl, h111] at hc
    omega
theorem TC_fr {S : List (Nat × Option Nat)} {h h1 : Hp} {D : Nat → Int} (r : TC h D) (f : fr S h h1) (c : ckS S 0 16 = true) : TC h1 D := by
  refine ⟨fun k i d hd => ?_, fun i hi hc => ?_⟩
  · rw [f.1 k i (ckS_no c (by omega) (cpl_k (dof_c hd).1))]
    exact r.1 k i d hd
  · rw [f.1 9 i (ckS_no c (by omega) (by omega)), f.1 10 i (ckS_no c (by omega) (by omega)), f.1 11 i (ckS_no c (by omega) (by omega))]
    exact r.2 i hi hc
theorem JA_text {S1 S2 : List (Nat × Option Nat)} {h h1 h2 : Hp} {b : Int → Int} {s e1 e2 : Int} {r1 r2 : Int32} {n1 n2 : Nat} (r : JA h) (f1 : fr S1 h h1) (f2 : fr S2 h1 h2) (X1 : x_tx b s r1 e1 n1) (X2 : x_tx b s r2 e2 n2) (t : TK h h1 e1 (x_st b n1).2.1) (m : MK h1 h2 e2 (x_st b n2).2.1) (s1 : ckS S1 34 67 = true) (s2 : ckS S1 116 118 = true) (s3 : ckS S2 0 115 = true) : JA h2 := by
  obtain ⟨hn, hr, hu⟩ := x_tx_un X1 X2
  subst hn
  subst hu
  have c6 : ∀ k i : Nat, k ≤ 115 → h2.1 k i = h1.1 k i := fun k i hk => f2.1 _ _ (ckS_no s3 (by omega) hk)
  rcases t with ⟨t0, t1, t2, t3⟩ | ⟨t0, t1⟩
  · rcases m with ⟨m0, m1, m2, m3⟩ | ⟨m0, m1⟩
    · exact JA_new (TC_fr t1 f2 (by
        refine List.all_eq_true.mpr (fun q hq => ?_)
        have := of_decide_eq_true (List.all_eq_true.mp s3 q hq)
        exact decide_eq_true (by omega))) m1 (x_111 n1 X1.1.1) (by rw [c6 _ _ (by omega)]; exact t2) (by rw [c6 _ _ (by omega)]; exact t3) m2 m3
    · exact absurd t0 m0
  · rcases m with ⟨m0, m1, m2, m3⟩ | ⟨m0, m1⟩
    · exact absurd m0 t0
    · have mm : ∀ k i : Nat, 116 ≤ k → k ≤ 118 → h1.1 k i = h.1 k i := fun k i p q => f1.1 _ _ (ckS_no s2 p q)
      refine JA_at (fun k i hk => ?_) r
      rcases hk with hk | hk | hk | hk | hk | hk
      · have := cpl_k hk.1
        rw [c6 _ _ (by omega)]
        exact t1 k i (Or.inl this)
      · rw [c6 _ _ (by omega)]
        exact f1.1 _ _ (ckS_no s1 hk.1 hk.2)
      · rw [hk, c6 _ _ (by omega)]
        exact t1 87 i (Or.inr rfl)
      · rw [m1 k i (Or.inr (Or.inl hk)), mm _ _ (by omega) (by omega)]
      · rw [m1 k i (Or.inl hk.1), mm _ _ (by omega) (by omega)]
      · rw [m1 k i (Or.inr (Or.inr hk)), mm _ _ (by omega) (by omega)]
end
section
def ru (a : Int) (r w g x y n m t : Int32) : Prop := a = 0 ∧ r = w ∨ a = 1 ∧ r = g ∨ a = 2 ∧ r = x ∨ a = 3 ∧ r = y ∨ a = 4 ∧ r = n ∨ a = 5 ∧ r = m ∨ a = 6 ∧ r = t ∨ (a < 0 ∨ 6 < a) ∧ r.toInt = -1
theorem ru_0 {a : Int} {r w g x y n m t : Int32} (h : a = 0) (e : r = w) : ru a r w g x y n m t := Or.inl ⟨h, e⟩
theorem ru_1 {a : Int} {r w g x y n m t : Int32} (h : a = 1) (e : r = g) : ru a r w g x y n m t := Or.inr (Or.inl ⟨h, e⟩)
theorem ru_2 {a : Int} {r w g x y n m t : Int32} (h : a = 2) (e : r = x) : ru a r w g x y n m t := Or.inr (Or.inr (Or.inl ⟨h, e⟩))
theorem ru_3 {a : Int} {r w g x y n m t : Int32} (h : a = 3) (e : r = y) : ru a r w g x y n m t := Or.inr (Or.inr (Or.inr (Or.inl ⟨h, e⟩)))
theorem ru_4 {a : Int} {r w g x y n m t : Int32} (h : a = 4) (e : r = n) : ru a r w g x y n m t := Or.inr (Or.inr (Or.inr (Or.inr (Or.inl ⟨h, e⟩))))
theorem ru_5 {a : Int} {r w g x y n m t : Int32} (h : a = 5) (e : r = m) : ru a r w g x y n m t := Or.inr (Or.inr (Or.inr (Or.inr (Or.inr (Or.inl ⟨h, e⟩)))))
theorem ru_6 {a : Int} {r w g x y n m t : Int32} (h : a = 6) (e : r = t) : ru a r w g x y n m t := Or.inr (Or.inr (Or.inr (Or.inr (Or.inr (Or.inr (Or.inl ⟨h, e⟩))))))
theorem ru_n {a : Int} {r w g x y n m t : Int32} (h : a < 0 ∨ 6 < a) (e : r.toInt = -1) : ru a r w g x y n m t := Or.inr (Or.inr (Or.inr (Or.inr (Or.inr (Or.inr (Or.inr (⟨h, e⟩)))))))
def S_Rod_textY : List (Nat × Option Nat) := [(89, some 2), (89, some 3), (89, some 4), (89, some 5), (88, some 5), (88, some 6), (88, some 4), (91, none), (92, none), (69, none), (70, none), (71, none), (72, none), (73, none), (74, none), (76, none), (68, some 3), (68, some 4), (75, some 4), (77, none), (78, none), (79, none), (80, some 4), (0, some 3), (0, some 4), (1, none), (2, none), (3, none), (4, none), (5, none), (6, none), (7, some 4), (8, none), (9, none), (10, none), (11, none), (12, some 4), (13, none), (14, none), (15, none), (16, none), (89, some 1), (87, none)]
abbrev q_Rod_textY (h : Hp) (b : Int → Int) (s : Int32) (sZ : Int) : Option Value → Hp → Prop := pInt (fun r h' => Inv h' ∧ fr S_Rod_textY h h' ∧ ∃ (v : Int32) (vZ : Int), v.toInt = vZ ∧ h'.1 89 1 = v ∧ ∃ (e : Int32) (eZ : Int), e.toInt = eZ ∧ h'.1 88 6 = e ∧ (vZ = 0 ∧ ∃ n : Nat, x_tx b sZ r eZ n ∧ TK h h' eZ (x_st b n).2.1))
set_option maxRecDepth 100000 in
theorem c_Rod_textY (h : Hp) (b : Int → Int) (hI : Inv h) (s : Int32) (sZ : Int) (sE : s.toInt = sZ) (sK : h.1 89 1 = s) (hy0 : TP h 90 sZ b) : Ct y_Rod_text b_Rod_text 3 (some .int) 9 192 [.ref 85] h (q_Rod_textY h b s sZ) := by
  refine ct_ow R_Rod [some (.ref 85), none, none] rfl (by decide) rfl (Nat.le_of_ble_eq_true rfl) ?_
  have f0 : fr S_Rod_textY h h := fr_rf
  have g1 : 0 ≤ sZ ∧ sZ ≤ 160 := inv_at hI sE sK.symm rfl
  refine V_aload_n 0 d_Rod_text_0 rfl rfl ?_
  refine V_getR fa_Rod_30 sk_85 rfl d_Rod_text_1 ?_
  refine N_callVI [] [] cv_Rod_77 sk_88 rfl d_Rod_text_4 rfl (Nat.le_of_ble_eq_true rfl) (by decide) (by decide) (c_Reader_readAllX h b hI s sZ sE sK (TP_fr f0 (fun _ => rfl) hy0)) (fun z2 h3 z2Z z2E p4 => ?_)
  obtain ⟨hI5, fh3, o7, o7Z, o7E, o7K, p4⟩ := p4
  have f6 : fr S_Rod_textY h h3 := fr_call f0 fh3 rfl
  have Q8 : SC h h3 := SC_fr SC_rf fh3 rfl rfl
  obtain ⟨n, hX, hY⟩ := p4
  refine V_istore_n 1 [some (.ref 85), some (.int z2), none] d_Rod_text_7 rfl (by decide) rfl rfl ?_
  refine V_aload_n 0 d_Rod_text_8 rfl rfl ?_
  refine V_getR fa_Rod_38 sk_85 rfl d_Rod_text_9 ?_
  refine V_iconst 0 d_Rod_text_12 (by decide) ?_
  refine N_putI fp_Rod_67 sk_89 rfl d_Rod_text_13 (fun h9 eh9 => ?_)
  have hI10 : Inv h9 := inv_put (lo := 0) (hi := 160) hI5 eh9 rfl tc_0 (by omega)
  have f11 : fr S_Rod_textY h h9 := fr_put f6 eh9 rfl
  have Q12 : SC h h9 := SC_ne Q8 eh9 (by decide)
  refine V_iload_n 1 d_Rod_text_16 rfl rfl ?_
  refine V_if_lt 54 z2E d_Rod_text_17 (by decide) (fun c13 => ?_) (fun c13 => ?_)
  ·
    obtain ⟨he, hr⟩ := hY.resolve_left (fun q => absurd q.2.1 (by omega))
    refine V_iload_n 1 d_Rod_text_54 rfl rfl ?_
    exact V_iret rfl d_Rod_text_55 ⟨z2, rfl, ⟨hI10, f11, 0, 0, tc_0, (kn_put eh9), o7, o7Z, o7E, (kn_ne eh9 o7K (by decide)), ⟨by omega, n, hX, Or.inr ⟨he, Q12⟩⟩⟩⟩
  ·
    obtain ⟨he, hr, hR0⟩ := hY.resolve_right (fun q => absurd q.2 (by omega))
    have hR := RC_ne eh9 (by decide) hR0
    refine V_aload_n 0 d_Rod_text_20 rfl rfl ?_
    refine V_getR fa_Rod_12 sk_85 rfl d_Rod_text_21 ?_
    refine V_aload_n 0 d_Rod_text_24 rfl rfl ?_
    refine V_getR fa_Rod_30 sk_85 rfl d_Rod_text_25 ?_
    refine V_getR fa_Rod_81 sk_88 rfl d_Rod_text_28 ?_
    obtain ⟨z14, z14Z, z14E, z14e⟩ : ∃ (y : Int32) (Y : Int), y.toInt = Y ∧ y = h9.1 68 3 := ⟨_, _, rfl, rfl⟩
    obtain ⟨z15, z15Z, z15E, z15e⟩ : ∃ (y : Int32) (Y : Int), y.toInt = Y ∧ y = h9.1 68 4 := ⟨_, _, rfl, rfl⟩
    refine N_callVV [.ref 68] [] cv_Rod_84 sk_0 rfl d_Rod_text_31 rfl (Nat.le_of_ble_eq_true rfl) (by decide) (by decide) (c_County_copyX_0_4 h9 hI10 z14 z14Z z14E z14e.symm z15 z15Z z15E z15e.symm) (fun h17 p18 => ?_)
    obtain ⟨hI19, fh17, p18⟩ := p18
    have f20 : fr S_Rod_textY h h17 := fr_call f11 fh17 rfl
    have Q21 : TC h17 (x_st b n).2.1 := TC_of hR p18
    refine V_iconst 0 d_Rod_text_34 (by decide) ?_
    refine V_istore_n 2 [some (.ref 85), some (.int z2), some (.int 0)] d_Rod_text_35 rfl (by decide) rfl rfl ?_
    refine V_iload_n 2 d_Rod_text_36 rfl rfl ?_
    refine V_iconst 2 d_Rod_text_37 (by decide) ?_
    refine V_icmp_ge 54 tc_0 tc_2 d_Rod_text_38 (by decide) (fun c22 => ?_) (fun c22 => ?_)
    ·
      exact absurd c22 (by decide)
    ·
      refine V_aload_n 0 d_Rod_text_41 rfl rfl ?_
      refine V_getR fa_Rod_23 sk_85 rfl d_Rod_text_42 ?_
      refine V_iload_n 2 d_Rod_text_45 rfl rfl ?_
      refine V_iconst 0 d_Rod_text_46 (by decide) ?_
      refine N_zast sk_87 tc_0 (by omega) d_Rod_text_47 (fun h23 eh23 => ?_)
      have hI24 : Inv h23 := inv_full hI19 eh23 rfl
      have f25 : fr S_Rod_textY h h23 := fr_put f20 eh23 rfl
      have Q26 : TC h23 (x_st b n).2.1 := TC_ne Q21 eh23 (by decide)
      refine V_iinc (v := 1) 2 [some (.ref 85), some (.int z2), some (.int 1)] d_Rod_text_48 rfl (by decide) (by decide) rfl rfl ?_
      refine V_goto 36 d_Rod_text_51 (by decide) ?_
      refine V_iload_n 2 d_Rod_text_36 rfl rfl ?_
      refine V_iconst 2 d_Rod_text_37 (by decide) ?_
      refine V_icmp_ge 54 tc_1 tc_2 d_Rod_text_38 (by decide) (fun c28 => ?_) (fun c28 => ?_)
      ·
        exact absurd c28 (by decide)
      ·
        refine V_aload_n 0 d_Rod_text_41 rfl rfl ?_
        refine V_getR fa_Rod_23 sk_85 rfl d_Rod_text_42 ?_
        refine V_iload_n 2 d_Rod_text_45 rfl rfl ?_
        refine V_iconst 0 d_Rod_text_46 (by decide) ?_
        refine N_zast sk_87 tc_1 (by omega) d_Rod_text_47 (fun h29 eh29 => ?_)
        have hI30 : Inv h29 := inv_full hI24 eh29 rfl
        have f31 : fr S_Rod_textY h h29 := fr_put f25 eh29 rfl
        have Q32 : TC h29 (x_st b n).2.1 := TC_ne Q26 eh29 (by decide)
        refine V_iinc (v := 2) 2 [some (.ref 85), some (.int z2), some (.int 2)] d_Rod_text_48 rfl (by decide) (by decide) rfl rfl ?_
        refine V_goto 36 d_Rod_text_51 (by decide) ?_
        refine V_iload_n 2 d_Rod_text_36 rfl rfl ?_
        refine V_iconst 2 d_Rod_text_37 (by decide) ?_
        refine V_icmp_ge 54 tc_2 tc_2 d_Rod_text_38 (by decide) (fun c34 => ?_) (fun c34 => ?_)
        ·
          refine V_iload_n 1 d_Rod_text_54 rfl rfl ?_
          exact V_iret rfl d_Rod_text_55 ⟨z2, rfl, ⟨hI30, f31, 0, 0, tc_0, (kn_ne eh29 (kn_ne eh23 (kn_call fh17 (kn_put eh9) rfl) (by decide)) (by decide)), o7, o7Z, o7E, (kn_ne eh29 (kn_ne eh23 (kn_call fh17 (kn_ne eh9 o7K (by decide)) rfl) (by decide)) (by decide)), ⟨by omega, n, hX, Or.inl ⟨he, Q32, ((kn_nei eh29 (kn_put eh23) (by decide)).trans (by decide)), ((kn_put eh29).trans (by decide))⟩⟩⟩⟩
        ·
          exact absurd c34 (by decide)
abbrev q_Rod_ruleX (h : Hp) (a : Int32) (aZ : Int) (w : Int32) (wZ : Int) (g : Int32) (gZ : Int) (x : Int32) (xZ : Int) (y : Int32) (yZ : Int) (n : Int32) (nZ : Int) (m : Int32) (mZ : Int) (t : Int32) (tZ : Int) : Option Value → Hp → Prop := pInt (fun r h' => h = h' ∧ (ru aZ r w g x y n m t))
set_option maxRecDepth 100000 in
theorem c_Rod_ruleX (h : Hp) (hI : Inv h) (a : Int32) (aZ : Int) (aE : a.toInt = aZ) (w : Int32) (wZ : Int) (wE : w.toInt = wZ) (wK : h.1 1 0 = w) (g : Int32) (gZ : Int) (gE : g.toInt = gZ) (gK : h.1 1 1 = g) (x : Int32) (xZ : Int) (xE : x.toInt = xZ) (xK : h.1 1 2 = x) (y : Int32) (yZ : Int) (yE : y.toInt = yZ) (yK : h.1 1 3 = y) (n : Int32) (nZ : Int) (nE : n.toInt = nZ) (nK : h.1 0 3 = n) (m : Int32) (mZ : Int) (mE : m.toInt = mZ) (mK : h.1 0 4 = m) (t : Int32) (tZ : Int) (tE : t.toInt = tZ) (tK : h.1 7 4 = t) : Ct y_Rod_rule b_Rod_rule 2 (some .int) 0 0 [.ref 85, .int a] h (q_Rod_ruleX h a aZ w wZ g gZ x xZ y yZ n nZ m mZ t tZ) := by
  refine ct_ow R_Rod [some (.ref 85), some (.int a)] rfl (by decide) rfl (Nat.le_of_ble_eq_true rfl) ?_
  have f0 : fr [] h h := fr_rf
  have g1 : 2 ≤ wZ ∧ wZ ≤ 4 := inv_at hI wE wK.symm rfl
  have g2 : 2 ≤ gZ ∧ gZ ≤ 4 := inv_at hI gE gK.symm rfl
  have g3 : 0 ≤ tZ ∧ tZ ≤ 8 := inv_at hI tE tK.symm rfl
  refine V_iload_n 1 d_Rod_rule_0 rfl rfl ?_
  rcases (by omega : (aZ < 0 ∨ 6 < aZ) ∨ aZ = 0 ∨ aZ = 1 ∨ aZ = 2 ∨ aZ = 3 ∨ aZ = 4 ∨ aZ = 5 ∨ aZ = 6) with c4 | c4 | c4 | c4 | c4 | c4 | c4 | c4
  ·
    refine V_tabOut 115 aE d_Rod_rule_1 c4 (by decide) ?_
    refine V_iconst (-1) d_Rod_rule_115 (by decide) ?_
    exact V_iret rfl d_Rod_rule_116 ⟨(-1), rfl, ⟨rfl, (ru_n (by omega) tc_m1)⟩⟩
  ·
    refine V_tabIn 44 aE d_Rod_rule_1 (by omega) (by omega) (by rw [c4]; rfl) (by decide) ?_
    refine V_aload_n 0 d_Rod_rule_44 rfl rfl ?_
    refine V_getR fa_Rod_12 sk_85 rfl d_Rod_rule_45 ?_
    refine V_getR fa_Rod_91 sk_0 rfl d_Rod_rule_48 ?_
    refine N_getK fa_Rod_95 sk_1 rfl d_Rod_rule_51 wK ?_
    exact V_iret rfl d_Rod_rule_54 ⟨w, rfl, ⟨rfl, (ru_0 (by omega) rfl)⟩⟩
  ·
    refine V_tabIn 55 aE d_Rod_rule_1 (by omega) (by omega) (by rw [c4]; rfl) (by decide) ?_
    refine V_aload_n 0 d_Rod_rule_55 rfl rfl ?_
    refine V_getR fa_Rod_12 sk_85 rfl d_Rod_rule_56 ?_
    refine V_getR fa_Rod_91 sk_0 rfl d_Rod_rule_59 ?_
    refine N_getK fa_Rod_100 sk_1 rfl d_Rod_rule_62 gK ?_
    exact V_iret rfl d_Rod_rule_65 ⟨g, rfl, ⟨rfl, (ru_1 (by omega) rfl)⟩⟩
  ·
    refine V_tabIn 66 aE d_Rod_rule_1 (by omega) (by omega) (by rw [c4]; rfl) (by decide) ?_
    refine V_aload_n 0 d_Rod_rule_66 rfl rfl ?_
    refine V_getR fa_Rod_12 sk_85 rfl d_Rod_rule_67 ?_
    refine V_getR fa_Rod_91 sk_0 rfl d_Rod_rule_70 ?_
    refine N_getK fa_Rod_103 sk_1 rfl d_Rod_rule_73 xK ?_
    exact V_iret rfl d_Rod_rule_76 ⟨x, rfl, ⟨rfl, (ru_2 (by omega) rfl)⟩⟩
  ·
    refine V_tabIn 77 aE d_Rod_rule_1 (by omega) (by omega) (by rw [c4]; rfl) (by decide) ?_
    refine V_aload_n 0 d_Rod_rule_77 rfl rfl ?_
    refine V_getR fa_Rod_12 sk_85 rfl d_Rod_rule_78 ?_
    refine V_getR fa_Rod_91 sk_0 rfl d_Rod_rule_81 ?_
    refine N_getK fa_Rod_106 sk_1 rfl d_Rod_rule_84 yK ?_
    exact V_iret rfl d_Rod_rule_87 ⟨y, rfl, ⟨rfl, (ru_3 (by omega) rfl)⟩⟩
  ·
    refine V_tabIn 88 aE d_Rod_rule_1 (by omega) (by omega) (by rw [c4]; rfl) (by decide) ?_
    refine V_aload_n 0 d_Rod_rule_88 rfl rfl ?_
    refine V_getR fa_Rod_12 sk_85 rfl d_Rod_rule_89 ?_
    refine N_getK fa_Rod_109 sk_0 rfl d_Rod_rule_92 nK ?_
    exact V_iret rfl d_Rod_rule_95 ⟨n, rfl, ⟨rfl, (ru_4 (by omega) rfl)⟩⟩
  ·
    refine V_tabIn 96 aE d_Rod_rule_1 (by omega) (by omega) (by rw [c4]; rfl) (by decide) ?_
    refine V_aload_n 0 d_Rod_rule_96 rfl rfl ?_
    refine V_getR fa_Rod_12 sk_85 rfl d_Rod_rule_97 ?_
    refine N_getK fa_Rod_112 sk_0 rfl d_Rod_rule_100 mK ?_
    exact V_iret rfl d_Rod_rule_103 ⟨m, rfl, ⟨rfl, (ru_5 (by omega) rfl)⟩⟩
  ·
    refine V_tabIn 104 aE d_Rod_rule_1 (by omega) (by omega) (by rw [c4]; rfl) (by decide) ?_
    refine V_aload_n 0 d_Rod_rule_104 rfl rfl ?_
    refine V_getR fa_Rod_12 sk_85 rfl d_Rod_rule_105 ?_
    refine V_getR fa_Rod_115 sk_0 rfl d_Rod_rule_108 ?_
    refine N_getK fa_Rod_119 sk_7 rfl d_Rod_rule_111 tK ?_
    exact V_iret rfl d_Rod_rule_114 ⟨t, rfl, ⟨rfl, (ru_6 (by omega) rfl)⟩⟩
abbrev q_Mod_ruleX (h : Hp) (a : Int32) (aZ : Int) (w : Int32) (wZ : Int) (g : Int32) (gZ : Int) (x : Int32) (xZ : Int) (y : Int32) (yZ : Int) (n : Int32) (nZ : Int) (m : Int32) (mZ : Int) (t : Int32) (tZ : Int) : Option Value → Hp → Prop := pInt (fun r h' => h = h' ∧ (ru aZ r w g x y n m t))
set_option maxRecDepth 100000 in
theorem c_Mod_ruleX (h : Hp) (hI : Inv h) (a : Int32) (aZ : Int) (aE : a.toInt = aZ) (w : Int32) (wZ : Int) (wE : w.toInt = wZ) (wK : h.1 116 2 = w) (g : Int32) (gZ : Int) (gE : g.toInt = gZ) (gK : h.1 116 3 = g) (x : Int32) (xZ : Int) (xE : x.toInt = xZ) (xK : h.1 116 4 = x) (y : Int32) (yZ : Int) (yE : y.toInt = yZ) (yK : h.1 116 5 = y) (n : Int32) (nZ : Int) (nE : n.toInt = nZ) (nK : h.1 117 84 = n) (m : Int32) (mZ : Int) (mE : m.toInt = mZ) (mK : h.1 117 85 = m) (t : Int32) (tZ : Int) (tE : t.toInt = tZ) (tK : h.1 117 86 = t) : Ct y_Mod_rule b_Mod_rule 2 (some .int) 0 0 [.ref 116, .int a] h (q_Mod_ruleX h a aZ w wZ g gZ x xZ y yZ n nZ m mZ t tZ) := by
  refine ct_ow R_Mod [some (.ref 116), some (.int a)] rfl (by decide) rfl (Nat.le_of_ble_eq_true rfl) ?_
  have f0 : fr [] h h := fr_rf
  have g1 : 2 ≤ wZ ∧ wZ ≤ 4 := inv_at hI wE wK.symm rfl
  have g2 : 2 ≤ gZ ∧ gZ ≤ 4 := inv_at hI gE gK.symm rfl
  refine V_iload_n 1 d_Mod_rule_0 rfl rfl ?_
  rcases (by omega : (aZ < 0 ∨ 6 < aZ) ∨ aZ = 0 ∨ aZ = 1 ∨ aZ = 2 ∨ aZ = 3 ∨ aZ = 4 ∨ aZ = 5 ∨ aZ = 6) with c3 | c3 | c3 | c3 | c3 | c3 | c3 | c3
  ·
    refine V_tabOut 88 aE d_Mod_rule_1 c3 (by decide) ?_
    refine V_iconst (-1) d_Mod_rule_88 (by decide) ?_
    exact V_iret rfl d_Mod_rule_89 ⟨(-1), rfl, ⟨rfl, (ru_n (by omega) tc_m1)⟩⟩
  ·
    refine V_tabIn 44 aE d_Mod_rule_1 (by omega) (by omega) (by rw [c3]; rfl) (by decide) ?_
    refine V_aload_n 0 d_Mod_rule_44 rfl rfl ?_
    refine N_getK fa_Mod_81 sk_116 rfl d_Mod_rule_45 wK ?_
    exact V_iret rfl d_Mod_rule_48 ⟨w, rfl, ⟨rfl, (ru_0 (by omega) rfl)⟩⟩
  ·
    refine V_tabIn 49 aE d_Mod_rule_1 (by omega) (by omega) (by rw [c3]; rfl) (by decide) ?_
    refine V_aload_n 0 d_Mod_rule_49 rfl rfl ?_
    refine N_getK fa_Mod_84 sk_116 rfl d_Mod_rule_50 gK ?_
    exact V_iret rfl d_Mod_rule_53 ⟨g, rfl, ⟨rfl, (ru_1 (by omega) rfl)⟩⟩
  ·
    refine V_tabIn 54 aE d_Mod_rule_1 (by omega) (by omega) (by rw [c3]; rfl) (by decide) ?_
    refine V_aload_n 0 d_Mod_rule_54 rfl rfl ?_
    refine N_getK fa_Mod_87 sk_116 rfl d_Mod_rule_55 xK ?_
    exact V_iret rfl d_Mod_rule_58 ⟨x, rfl, ⟨rfl, (ru_2 (by omega) rfl)⟩⟩
  ·
    refine V_tabIn 59 aE d_Mod_rule_1 (by omega) (by omega) (by rw [c3]; rfl) (by decide) ?_
    refine V_aload_n 0 d_Mod_rule_59 rfl rfl ?_
    refine N_getK fa_Mod_90 sk_116 rfl d_Mod_rule_60 yK ?_
    exact V_iret rfl d_Mod_rule_63 ⟨y, rfl, ⟨rfl, (ru_3 (by omega) rfl)⟩⟩
  ·
    refine V_tabIn 64 aE d_Mod_rule_1 (by omega) (by omega) (by rw [c3]; rfl) (by decide) ?_
    refine V_aload_n 0 d_Mod_rule_64 rfl rfl ?_
    refine V_getR fa_Mod_7 sk_116 rfl d_Mod_rule_65 ?_
    refine V_bipush 84 d_Mod_rule_68 (by decide) ?_
    refine N_ialdK sk_117 tc_84 (by omega) d_Mod_rule_70 nK ?_
    exact V_iret rfl d_Mod_rule_71 ⟨n, rfl, ⟨rfl, (ru_4 (by omega) rfl)⟩⟩
  ·
    refine V_tabIn 72 aE d_Mod_rule_1 (by omega) (by omega) (by rw [c3]; rfl) (by decide) ?_
    refine V_aload_n 0 d_Mod_rule_72 rfl rfl ?_
    refine V_getR fa_Mod_7 sk_116 rfl d_Mod_rule_73 ?_
    refine V_bipush 85 d_Mod_rule_76 (by decide) ?_
    refine N_ialdK sk_117 tc_85 (by omega) d_Mod_rule_78 mK ?_
    exact V_iret rfl d_Mod_rule_79 ⟨m, rfl, ⟨rfl, (ru_5 (by omega) rfl)⟩⟩
  ·
    refine V_tabIn 80 aE d_Mod_rule_1 (by omega) (by omega) (by rw [c3]; rfl) (by decide) ?_
    refine V_aload_n 0 d_Mod_rule_80 rfl rfl ?_
    refine V_getR fa_Mod_7 sk_116 rfl d_Mod_rule_81 ?_
    refine V_bipush 86 d_Mod_rule_84 (by decide) ?_
    refine N_ialdK sk_117 tc_86 (by omega) d_Mod_rule_86 tK ?_
    exact V_iret rfl d_Mod_rule_87 ⟨t, rfl, ⟨rfl, (ru_6 (by omega) rfl)⟩⟩
end
section
theorem JA_row3 {h h1 h2 : Hp} {k : Nat} {c oZ : Int} {G : Prop} {V1 V2 : Int32 → Prop} {r1 r2 : Int32} (hI : Inv h) (r : JA h) (f1 : Er h h1 k c.toNat G V1 r1) (f2 : Er h1 h2 117 (oZ + c).toNat G V2 r2) (hk : k = 3 ∧ oZ = 16 ∨ k = 4 ∧ oZ = 32 ∨ k = 5 ∧ oZ = 48) (hc : G → 0 ≤ c ∧ c < (h.1 1 0).toInt * (h.1 1 1).toInt) (hV : ∀ x y : Int32, V1 x → V2 y → x = y) : JA h2 ∧ r1 = r2 := by
  have a : 2 ≤ (h.1 1 0).toInt ∧ (h.1 1 0).toInt ≤ 4 := hI 1 0
  have b : 2 ≤ (h.1 1 1).toInt ∧ (h.1 1 1).toInt ≤ 4 := hI 1 1
  have m := mul24 a b
  refine JA_row r f1 f2 Iff.rfl hV (fun g => ?_)
  have q := hc g
  have hlt : c < 16 := by omega
  rcases hk with ⟨rfl, rfl⟩ | ⟨rfl, rfl⟩ | ⟨rfl, rfl⟩
  · have e := dof_row (k := 71) (i := c.toNat) (n := 16) (o := 16) (A := c) (by omega) (by omega) rfl
    rw [show (16 + c).toNat = 16 + c.toNat by omega]
    exact ⟨e, by omega, by unfold aP; omega⟩
  · have e := dof_row (k := 72) (i := c.toNat) (n := 16) (o := 32) (A := c) (by omega) (by omega) rfl
    rw [show (32 + c).toNat = 32 + c.toNat by omega]
    exact ⟨e, by omega, by unfold aP; omega⟩
  · have e := dof_row (k := 73) (i := c.toNat) (n := 16) (o := 48) (A := c) (by omega) (by omega) rfl
    rw [show (48 + c).toNat = 48 + c.toNat by omega]
    exact ⟨e, by omega, by unfold aP; omega⟩
theorem V_flag {x y : Int32} {z : Int} (p : z ≠ 0 ∧ x.toInt = 1 ∨ z = 0 ∧ x.toInt = 0) (q : z ≠ 0 ∧ y.toInt = 1 ∨ z = 0 ∧ y.toInt = 0) : x = y := by
  rcases p with ⟨a1, b1⟩ | ⟨a1, b1⟩ <;> rcases q with ⟨a2, b2⟩ | ⟨a2, b2⟩
  · exact same_of b1 b2
  · exact absurd a2 a1
  · exact absurd a1 a2
  · exact same_of b1 b2
theorem JA_c86 {h : Hp} (r : JA h) : h.1 7 4 = h.1 117 86 := JA_cell r (k := 7) (i := 4) rfl (Or.inr (by decide)) (by decide)
theorem JA_c111 {h : Hp} (r : JA h) : h.1 12 4 = h.1 117 111 := JA_cell r (k := 12) (i := 4) rfl (Or.inr (by decide)) (by decide)
end
