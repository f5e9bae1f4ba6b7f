def S_Land_copyX_1_0 : List (Nat × Option Nat) := [(18, none), (19, none), (20, none), (21, none), (22, none), (23, none)]
abbrev q_Land_copyX_1_0 (h : Hp) (w : Int32) (wZ : Int) (g : Int32) (gZ : Int) (x : Int32) (xZ : Int) (y : Int32) (yZ : Int) : Option Value → Hp → Prop := pVd (fun h' => Inv h' ∧ fr S_Land_copyX_1_0 h h' ∧ (h'.1 18 0 = h.1 1 0 ∧ h'.1 18 1 = h.1 1 1 ∧ h'.1 18 2 = h.1 1 2 ∧ h'.1 18 3 = h.1 1 3 ∧ rcp h h' 19 2 16 ∧ rcp h h' 20 3 16 ∧ rcp h h' 21 4 16 ∧ rcp h h' 22 5 16 ∧ rcp h h' 23 6 16))
set_option maxRecDepth 100000 in
theorem c_Land_copyX_1_0 (h : Hp) (hI : Inv h) (w : Int32) (wZ : Int) (wE : w.toInt = wZ) (wK : h.1 1 0 = w) (g : Int32) (gZ : Int) (gE : g.toInt = gZ) (gK : h.1 1 1 = g) (x : Int32) (xZ : Int) (xE : x.toInt = xZ) (xK : h.1 1 2 = x) (y : Int32) (yZ : Int) (yE : y.toInt = yZ) (yK : h.1 1 3 = y) : Ct y_Land_copyFrom b_Land_copyFrom 2 none 1 60 [.ref 18, .ref 1] h (q_Land_copyX_1_0 h w wZ g gZ x xZ y yZ) := by
  refine ct_ow R_Land [some (.ref 18), some (.ref 1)] rfl (by decide) rfl (Nat.le_of_ble_eq_true rfl) ?_
  have f0 : fr S_Land_copyX_1_0 h h := fr_rf
  have g1 : 2 ≤ wZ ∧ wZ ≤ 4 := inv_at hI wE wK.symm rfl
  have g2 : 2 ≤ gZ ∧ gZ ≤ 4 := inv_at hI gE gK.symm rfl
  refine V_aload_n 0 d_Land_copyFrom_0 rfl rfl ?_
  refine V_aload_n 1 d_Land_copyFrom_1 rfl rfl ?_
  refine N_getK fa_Land_27 sk_1 rfl d_Land_copyFrom_2 wK ?_
  refine N_putI fp_Land_27 sk_18 rfl d_Land_copyFrom_5 (fun h3 eh3 => ?_)
  have hI4 : Inv h3 := inv_put (lo := 2) (hi := 4) hI eh3 rfl wE (by (first | decide +kernel | omega))
  have f5 : fr S_Land_copyX_1_0 h h3 := fr_put f0 eh3 rfl
  refine V_aload_n 0 d_Land_copyFrom_8 rfl rfl ?_
  refine V_aload_n 1 d_Land_copyFrom_9 rfl rfl ?_
  refine N_getK fa_Land_31 sk_1 rfl d_Land_copyFrom_10 (kn_ne eh3 gK (by decide)) ?_
  refine N_putI fp_Land_31 sk_18 rfl d_Land_copyFrom_13 (fun h6 eh6 => ?_)
  have hI7 : Inv h6 := inv_put (lo := 2) (hi := 4) hI4 eh6 rfl gE (by (first | decide +kernel | omega))
  have f8 : fr S_Land_copyX_1_0 h h6 := fr_put f5 eh6 rfl
  refine V_aload_n 0 d_Land_copyFrom_16 rfl rfl ?_
  refine V_aload_n 1 d_Land_copyFrom_17 rfl rfl ?_
  refine N_getK fa_Land_34 sk_1 rfl d_Land_copyFrom_18 (kn_ne eh6 (kn_ne eh3 xK (by decide)) (by decide)) ?_
  refine N_putI fp_Land_34 sk_18 rfl d_Land_copyFrom_21 (fun h9 eh9 => ?_)
  have hI10 : Inv h9 := inv_full hI7 eh9 rfl
  have f11 : fr S_Land_copyX_1_0 h h9 := fr_put f8 eh9 rfl
  refine V_aload_n 0 d_Land_copyFrom_24 rfl rfl ?_
  refine V_aload_n 1 d_Land_copyFrom_25 rfl rfl ?_
  refine N_getK fa_Land_37 sk_1 rfl d_Land_copyFrom_26 (kn_ne eh9 (kn_ne eh6 (kn_ne eh3 yK (by decide)) (by decide)) (by decide)) ?_
  refine N_putI fp_Land_37 sk_18 rfl d_Land_copyFrom_29 (fun h12 eh12 => ?_)
  have hI13 : Inv h12 := inv_full hI10 eh12 rfl
  have f14 : fr S_Land_copyX_1_0 h h12 := fr_put f11 eh12 rfl
  refine V_aload_n 1 d_Land_copyFrom_32 rfl rfl ?_
  refine V_getR fa_Land_9 sk_1 rfl d_Land_copyFrom_33 ?_
  refine V_iconst 0 d_Land_copyFrom_36 (by decide) ?_
  refine V_aload_n 0 d_Land_copyFrom_37 rfl rfl ?_
  refine V_getR fa_Land_9 sk_18 rfl d_Land_copyFrom_38 ?_
  refine V_iconst 0 d_Land_copyFrom_41 (by decide) ?_
  refine V_bipush 16 d_Land_copyFrom_42 (by decide) ?_
  refine N_acopy sk_2 sk_19 tc_0 tc_0 tc_16 (by (first | decide +kernel | omega)) wa_Land_46 wA1 wA2 wA3 d_Land_copyFrom_44 (by decide) (Nat.le_of_ble_eq_true rfl) (fun h15 eh15 => ?_)
  have hI16 : Inv h15 := inv_cpy (n := 16) hI13 eh15 (fun _ => rfl)
  have f17 : fr S_Land_copyX_1_0 h h15 := fr_row f14 eh15 (fun _ => rfl)
  have C18 : rcp h h15 19 2 16 := rcp_now f14 (fun _ => rfl) eh15
  refine V_aload_n 1 d_Land_copyFrom_47 rfl rfl ?_
  refine V_getR fa_Land_15 sk_1 rfl d_Land_copyFrom_48 ?_
  refine V_iconst 0 d_Land_copyFrom_51 (by decide) ?_
  refine V_aload_n 0 d_Land_copyFrom_52 rfl rfl ?_
  refine V_getR fa_Land_15 sk_18 rfl d_Land_copyFrom_53 ?_
  refine V_iconst 0 d_Land_copyFrom_56 (by decide) ?_
  refine V_bipush 16 d_Land_copyFrom_57 (by decide) ?_
  refine N_acopy sk_3 sk_20 tc_0 tc_0 tc_16 (by (first | decide +kernel | omega)) wa_Land_46 wA1 wA2 wA3 d_Land_copyFrom_59 (by decide) (Nat.le_of_ble_eq_true rfl) (fun h19 eh19 => ?_)
  have hI20 : Inv h19 := inv_cpy (n := 16) hI16 eh19 (fun _ => rfl)
  have f21 : fr S_Land_copyX_1_0 h h19 := fr_row f17 eh19 (fun _ => rfl)
  have C22 : rcp h h19 19 2 16 := rcp_row C18 eh19 (by decide)
  have C23 : rcp h h19 20 3 16 := rcp_now f17 (fun _ => rfl) eh19
  refine V_aload_n 1 d_Land_copyFrom_62 rfl rfl ?_
  refine V_getR fa_Land_18 sk_1 rfl d_Land_copyFrom_63 ?_
  refine V_iconst 0 d_Land_copyFrom_66 (by decide) ?_
  refine V_aload_n 0 d_Land_copyFrom_67 rfl rfl ?_
  refine V_getR fa_Land_18 sk_18 rfl d_Land_copyFrom_68 ?_
  refine V_iconst 0 d_Land_copyFrom_71 (by decide) ?_
  refine V_bipush 16 d_Land_copyFrom_72 (by decide) ?_
  refine N_acopy sk_4 sk_21 tc_0 tc_0 tc_16 (by (first | decide +kernel | omega)) wa_Land_46 wA1 wA2 wA3 d_Land_copyFrom_74 (by decide) (Nat.le_of_ble_eq_true rfl) (fun h24 eh24 => ?_)
  have hI25 : Inv h24 := inv_cpy (n := 16) hI20 eh24 (fun _ => rfl)
  have f26 : fr S_Land_copyX_1_0 h h24 := fr_row f21 eh24 (fun _ => rfl)
  have C27 : rcp h h24 19 2 16 := rcp_row C22 eh24 (by decide)
  have C28 : rcp h h24 20 3 16 := rcp_row C23 eh24 (by decide)
  have C29 : rcp h h24 21 4 16 := rcp_now f21 (fun _ => rfl) eh24
  refine V_aload_n 1 d_Land_copyFrom_77 rfl rfl ?_
  refine V_getR fa_Land_21 sk_1 rfl d_Land_copyFrom_78 ?_
  refine V_iconst 0 d_Land_copyFrom_81 (by decide) ?_
  refine V_aload_n 0 d_Land_copyFrom_82 rfl rfl ?_
  refine V_getR fa_Land_21 sk_18 rfl d_Land_copyFrom_83 ?_
  refine V_iconst 0 d_Land_copyFrom_86 (by decide) ?_
  refine V_bipush 16 d_Land_copyFrom_87 (by decide) ?_
  refine N_acopy sk_5 sk_22 tc_0 tc_0 tc_16 (by (first | decide +kernel | omega)) wa_Land_46 wA1 wA2 wA3 d_Land_copyFrom_89 (by decide) (Nat.le_of_ble_eq_true rfl) (fun h30 eh30 => ?_)
  have hI31 : Inv h30 := inv_cpy (n := 16) hI25 eh30 (fun _ => rfl)
  have f32 : fr S_Land_copyX_1_0 h h30 := fr_row f26 eh30 (fun _ => rfl)
  have C33 : rcp h h30 19 2 16 := rcp_row C27 eh30 (by decide)
  have C34 : rcp h h30 20 3 16 := rcp_row C28 eh30 (by decide)
  have C35 : rcp h h30 21 4 16 := rcp_row C29 eh30 (by decide)
  have C36 : rcp h h30 22 5 16 := rcp_now f26 (fun _ => rfl) eh30
  refine V_aload_n 1 d_Land_copyFrom_92 rfl rfl ?_
  refine V_getR fa_Land_24 sk_1 rfl d_Land_copyFrom_93 ?_
  refine V_iconst 0 d_Land_copyFrom_96 (by decide) ?_
  refine V_aload_n 0 d_Land_copyFrom_97 rfl rfl ?_
  refine V_getR fa_Land_24 sk_18 rfl d_Land_copyFrom_98 ?_
  refine V_iconst 0 d_Land_copyFrom_101 (by decide) ?_
  refine V_bipush 16 d_Land_copyFrom_102 (by decide) ?_
  refine N_acopy sk_6 sk_23 tc_0 tc_0 tc_16 (by (first | decide +kernel | omega)) wa_Land_46 wA1 wA2 wA3 d_Land_copyFrom_104 (by decide) (Nat.le_of_ble_eq_true rfl) (fun h37 eh37 => ?_)
  have hI38 : Inv h37 := inv_cpy (n := 16) hI31 eh37 (fun _ => rfl)
  have f39 : fr S_Land_copyX_1_0 h h37 := fr_row f32 eh37 (fun _ => rfl)
  have C40 : rcp h h37 19 2 16 := rcp_row C33 eh37 (by decide)
  have C41 : rcp h h37 20 3 16 := rcp_row C34 eh37 (by decide)
  have C42 : rcp h h37 21 4 16 := rcp_row C35 eh37 (by decide)
  have C43 : rcp h h37 22 5 16 := rcp_row C36 eh37 (by decide)
  have C44 : rcp h h37 23 6 16 := rcp_now f32 (fun _ => rfl) eh37
  exact V_vret rfl d_Land_copyFrom_107 ⟨rfl, ⟨hI38, f39, ⟨((kn_row eh37 (kn_row eh30 (kn_row eh24 (kn_row eh19 (kn_row eh15 (kn_nei eh12 (kn_nei eh9 (kn_nei eh6 (kn_put eh3) (by decide)) (by decide)) (by decide)) (by decide)) (by decide)) (by decide)) (by decide)) (by decide)).trans wK.symm), ((kn_row eh37 (kn_row eh30 (kn_row eh24 (kn_row eh19 (kn_row eh15 (kn_nei eh12 (kn_nei eh9 (kn_put eh6) (by decide)) (by decide)) (by decide)) (by decide)) (by decide)) (by decide)) (by decide)).trans gK.symm), ((kn_row eh37 (kn_row eh30 (kn_row eh24 (kn_row eh19 (kn_row eh15 (kn_nei eh12 (kn_put eh9) (by decide)) (by decide)) (by decide)) (by decide)) (by decide)) (by decide)).trans xK.symm), ((kn_row eh37 (kn_row eh30 (kn_row eh24 (kn_row eh19 (kn_row eh15 (kn_put eh12) (by decide)) (by decide)) (by decide)) (by decide)) (by decide)).trans yK.symm), C40, C41, C42, C43, C44⟩⟩⟩
def S_Ledger_copyX_1_0 : List (Nat × Option Nat) := [(24, some 4), (25, none), (26, none), (27, none), (28, none)]
abbrev q_Ledger_copyX_1_0 (h : Hp) (t : Int32) (tZ : Int) : Option Value → Hp → Prop := pVd (fun h' => Inv h' ∧ fr S_Ledger_copyX_1_0 h h' ∧ (h'.1 24 4 = h.1 7 4 ∧ rcp h h' 25 8 4 ∧ rcp h h' 26 9 8 ∧ rcp h h' 27 10 8 ∧ rcp h h' 28 11 8))
set_option maxRecDepth 100000 in
theorem c_Ledger_copyX_1_0 (h : Hp) (hI : Inv h) (t : Int32) (tZ : Int) (tE : t.toInt = tZ) (tK : h.1 7 4 = t) : Ct y_Ledger_copyFrom b_Ledger_copyFrom 2 none 1 60 [.ref 24, .ref 7] h (q_Ledger_copyX_1_0 h t tZ) := by
  refine ct_ow R_Ledger [some (.ref 24), some (.ref 7)] rfl (by decide) rfl (Nat.le_of_ble_eq_true rfl) ?_
  have f0 : fr S_Ledger_copyX_1_0 h h := fr_rf
  have g1 : 0 ≤ tZ ∧ tZ ≤ 8 := inv_at hI tE tK.symm rfl
  refine V_aload_n 1 d_Ledger_copyFrom_0 rfl rfl ?_
  refine V_getR fa_Ledger_9 sk_7 rfl d_Ledger_copyFrom_1 ?_
  refine V_iconst 0 d_Ledger_copyFrom_4 (by decide) ?_
  refine V_aload_n 0 d_Ledger_copyFrom_5 rfl rfl ?_
  refine V_getR fa_Ledger_9 sk_24 rfl d_Ledger_copyFrom_6 ?_
  refine V_iconst 0 d_Ledger_copyFrom_9 (by decide) ?_
  refine V_iconst 4 d_Ledger_copyFrom_10 (by decide) ?_
  refine N_acopy sk_8 sk_25 tc_0 tc_0 tc_4 (by (first | decide +kernel | omega)) wa_Ledger_34 wA1 wA2 wA3 d_Ledger_copyFrom_11 (by decide) (Nat.le_of_ble_eq_true rfl) (fun h2 eh2 => ?_)
  have hI3 : Inv h2 := inv_cpy (n := 4) hI eh2 (fun _ => rfl)
  have f4 : fr S_Ledger_copyX_1_0 h h2 := fr_row f0 eh2 (fun _ => rfl)
  have C5 : rcp h h2 25 8 4 := rcp_now f0 (fun _ => rfl) eh2
  refine V_aload_n 1 d_Ledger_copyFrom_14 rfl rfl ?_
  refine V_getR fa_Ledger_15 sk_7 rfl d_Ledger_copyFrom_15 ?_
  refine V_iconst 0 d_Ledger_copyFrom_18 (by decide) ?_
  refine V_aload_n 0 d_Ledger_copyFrom_19 rfl rfl ?_
  refine V_getR fa_Ledger_15 sk_24 rfl d_Ledger_copyFrom_20 ?_
  refine V_iconst 0 d_Ledger_copyFrom_23 (by decide) ?_
  refine V_bipush 8 d_Ledger_copyFrom_24 (by decide) ?_
  refine N_acopy sk_9 sk_26 tc_0 tc_0 tc_8 (by (first | decide +kernel | omega)) wa_Ledger_34 wA1 wA2 wA3 d_Ledger_copyFrom_26 (by decide) (Nat.le_of_ble_eq_true rfl) (fun h6 eh6 => ?_)
  have hI7 : Inv h6 := inv_cpy (n := 8) hI3 eh6 (fun _ => rfl)
  have f8 : fr S_Ledger_copyX_1_0 h h6 := fr_row f4 eh6 (fun _ => rfl)
  have C9 : rcp h h6 25 8 4 := rcp_row C5 eh6 (by decide)
  have C10 : rcp h h6 26 9 8 := rcp_now f4 (fun _ => rfl) eh6
  refine V_aload_n 1 d_Ledger_copyFrom_29 rfl rfl ?_
  refine V_getR fa_Ledger_18 sk_7 rfl d_Ledger_copyFrom_30 ?_
  refine V_iconst 0 d_Ledger_copyFrom_33 (by decide) ?_
  refine V_aload_n 0 d_Ledger_copyFrom_34 rfl rfl ?_
  refine V_getR fa_Ledger_18 sk_24 rfl d_Ledger_copyFrom_35 ?_
  refine V_iconst 0 d_Ledger_copyFrom_38 (by decide) ?_
  refine V_bipush 8 d_Ledger_copyFrom_39 (by decide) ?_
  refine N_acopy sk_10 sk_27 tc_0 tc_0 tc_8 (by (first | decide +kernel | omega)) wa_Ledger_34 wA1 wA2 wA3 d_Ledger_copyFrom_41 (by decide) (Nat.le_of_ble_eq_true rfl) (fun h11 eh11 => ?_)
  have hI12 : Inv h11 := inv_cpy (n := 8) hI7 eh11 (fun _ => rfl)
  have f13 : fr S_Ledger_copyX_1_0 h h11 := fr_row f8 eh11 (fun _ => rfl)
  have C14 : rcp h h11 25 8 4 := rcp_row C9 eh11 (by decide)
  have C15 : rcp h h11 26 9 8 := rcp_row C10 eh11 (by decide)
  have C16 : rcp h h11 27 10 8 := rcp_now f8 (fun _ => rfl) eh11
  refine V_aload_n 1 d_Ledger_copyFrom_44 rfl rfl ?_
  refine V_getR fa_Ledger_21 sk_7 rfl d_Ledger_copyFrom_45 ?_
  refine V_iconst 0 d_Ledger_copyFrom_48 (by decide) ?_
  refine V_aload_n 0 d_Ledger_copyFrom_49 rfl rfl ?_
  refine V_getR fa_Ledger_21 sk_24 rfl d_Ledger_copyFrom_50 ?_
  refine V_iconst 0 d_Ledger_copyFrom_53 (by decide) ?_
  refine V_bipush 8 d_Ledger_copyFrom_54 (by decide) ?_
  refine N_acopy sk_11 sk_28 tc_0 tc_0 tc_8 (by (first | decide +kernel | omega)) wa_Ledger_34 wA1 wA2 wA3 d_Ledger_copyFrom_56 (by decide) (Nat.le_of_ble_eq_true rfl) (fun h17 eh17 => ?_)
  have hI18 : Inv h17 := inv_cpy (n := 8) hI12 eh17 (fun _ => rfl)
  have f19 : fr S_Ledger_copyX_1_0 h h17 := fr_row f13 eh17 (fun _ => rfl)
  have C20 : rcp h h17 25 8 4 := rcp_row C14 eh17 (by decide)
  have C21 : rcp h h17 26 9 8 := rcp_row C15 eh17 (by decide)
  have C22 : rcp h h17 27 10 8 := rcp_row C16 eh17 (by decide)
  have C23 : rcp h h17 28 11 8 := rcp_now f13 (fun _ => rfl) eh17
  refine V_aload_n 0 d_Ledger_copyFrom_59 rfl rfl ?_
  refine V_aload_n 1 d_Ledger_copyFrom_60 rfl rfl ?_
  refine N_getK fa_Ledger_30 sk_7 rfl d_Ledger_copyFrom_61 (kn_row eh17 (kn_row eh11 (kn_row eh6 (kn_row eh2 tK (by decide)) (by decide)) (by decide)) (by decide)) ?_
  refine N_putI fp_Ledger_30 sk_24 rfl d_Ledger_copyFrom_64 (fun h24 eh24 => ?_)
  have hI25 : Inv h24 := inv_put (lo := 0) (hi := 8) hI18 eh24 rfl tE (by (first | decide +kernel | omega))
  have f26 : fr S_Ledger_copyX_1_0 h h24 := fr_put f19 eh24 rfl
  have C27 : rcp h h24 25 8 4 := rcp_put C20 eh24 (by decide)
  have C28 : rcp h h24 26 9 8 := rcp_put C21 eh24 (by decide)
  have C29 : rcp h h24 27 10 8 := rcp_put C22 eh24 (by decide)
  have C30 : rcp h h24 28 11 8 := rcp_put C23 eh24 (by decide)
  exact V_vret rfl d_Ledger_copyFrom_67 ⟨rfl, ⟨hI25, f26, ⟨((kn_put eh24).trans tK.symm), C27, C28, C29, C30⟩⟩⟩
def S_Sights_copyX_1_0 : List (Nat × Option Nat) := [(29, some 4), (30, none), (31, none), (32, none), (33, none)]
abbrev q_Sights_copyX_1_0 (h : Hp) (t : Int32) (tZ : Int) : Option Value → Hp → Prop := pVd (fun h' => Inv h' ∧ fr S_Sights_copyX_1_0 h h' ∧ (h'.1 29 4 = h.1 12 4 ∧ rcp h h' 30 13 8 ∧ rcp h h' 31 14 8 ∧ rcp h h' 32 15 8 ∧ rcp h h' 33 16 8))
set_option maxRecDepth 100000 in
theorem c_Sights_copyX_1_0 (h : Hp) (hI : Inv h) (t : Int32) (tZ : Int) (tE : t.toInt = tZ) (tK : h.1 12 4 = t) : Ct y_Sights_copyFrom b_Sights_copyFrom 2 none 1 60 [.ref 29, .ref 12] h (q_Sights_copyX_1_0 h t tZ) := by
  refine ct_ow R_Sights [some (.ref 29), some (.ref 12)] rfl (by decide) rfl (Nat.le_of_ble_eq_true rfl) ?_
  have f0 : fr S_Sights_copyX_1_0 h h := fr_rf
  have g1 : 0 ≤ tZ ∧ tZ ≤ 8 := inv_at hI tE tK.symm rfl
  refine V_aload_n 1 d_Sights_copyFrom_0 rfl rfl ?_
  refine V_getR fa_Sights_9 sk_12 rfl d_Sights_copyFrom_1 ?_
  refine V_iconst 0 d_Sights_copyFrom_4 (by decide) ?_
  refine V_aload_n 0 d_Sights_copyFrom_5 rfl rfl ?_
  refine V_getR fa_Sights_9 sk_29 rfl d_Sights_copyFrom_6 ?_
  refine V_iconst 0 d_Sights_copyFrom_9 (by decide) ?_
  refine V_bipush 8 d_Sights_copyFrom_10 (by decide) ?_
  refine N_acopy sk_13 sk_30 tc_0 tc_0 tc_8 (by (first | decide +kernel | omega)) wa_Sights_24 wA1 wA2 wA3 d_Sights_copyFrom_12 (by decide) (Nat.le_of_ble_eq_true rfl) (fun h2 eh2 => ?_)
  have hI3 : Inv h2 := inv_cpy (n := 8) hI eh2 (fun _ => rfl)
  have f4 : fr S_Sights_copyX_1_0 h h2 := fr_row f0 eh2 (fun _ => rfl)
  have C5 : rcp h h2 30 13 8 := rcp_now f0 (fun _ => rfl) eh2
  refine V_aload_n 1 d_Sights_copyFrom_15 rfl rfl ?_
  refine V_getR fa_Sights_15 sk_12 rfl d_Sights_copyFrom_16 ?_
  refine V_iconst 0 d_Sights_copyFrom_19 (by decide) ?_
  refine V_aload_n 0 d_Sights_copyFrom_20 rfl rfl ?_
  refine V_getR fa_Sights_15 sk_29 rfl d_Sights_copyFrom_21 ?_
  refine V_iconst 0 d_Sights_copyFrom_24 (by decide) ?_
  refine V_bipush 8 d_Sights_copyFrom_25 (by decide) ?_
  refine N_acopy sk_14 sk_31 tc_0 tc_0 tc_8 (by (first | decide +kernel | omega)) wa_Sights_24 wA1 wA2 wA3 d_Sights_copyFrom_27 (by decide) (Nat.le_of_ble_eq_true rfl) (fun h6 eh6 => ?_)
  have hI7 : Inv h6 := inv_cpy (n := 8) hI3 eh6 (fun _ => rfl)
  have f8 : fr S_Sights_copyX_1_0 h h6 := fr_row f4 eh6 (fun _ => rfl)
  have C9 : rcp h h6 30 13 8 := rcp_row C5 eh6 (by decide)
  have C10 : rcp h h6 31 14 8 := rcp_now f4 (fun _ => rfl) eh6
  refine V_aload_n 1 d_Sights_copyFrom_30 rfl rfl ?_
  refine V_getR fa_Sights_18 sk_12 rfl d_Sights_copyFrom_31 ?_
  refine V_iconst 0 d_Sights_copyFrom_34 (by decide) ?_
  refine V_aload_n 0 d_Sights_copyFrom_35 rfl rfl ?_
  refine V_getR fa_Sights_18 sk_29 rfl d_Sights_copyFrom_36 ?_
  refine V_iconst 0 d_Sights_copyFrom_39 (by decide) ?_
  refine V_bipush 8 d_Sights_copyFrom_40 (by decide) ?_
  refine N_acopy sk_15 sk_32 tc_0 tc_0 tc_8 (by (first | decide +kernel | omega)) wa_Sights_24 wA1 wA2 wA3 d_Sights_copyFrom_42 (by decide) (Nat.le_of_ble_eq_true rfl) (fun h11 eh11 => ?_)
  have hI12 : Inv h11 := inv_cpy (n := 8) hI7 eh11 (fun _ => rfl)
  have f13 : fr S_Sights_copyX_1_0 h h11 := fr_row f8 eh11 (fun _ => rfl)
  have C14 : rcp h h11 30 13 8 := rcp_row C9 eh11 (by decide)
  have C15 : rcp h h11 31 14 8 := rcp_row C10 eh11 (by decide)
  have C16 : rcp h h11 32 15 8 := rcp_now f8 (fun _ => rfl) eh11
  refine V_aload_n 1 d_Sights_copyFrom_45 rfl rfl ?_
  refine V_getR fa_Sights_21 sk_12 rfl d_Sights_copyFrom_46 ?_
  refine V_iconst 0 d_Sights_copyFrom_49 (by decide) ?_
  refine V_aload_n 0 d_Sights_copyFrom_50 rfl rfl ?_
  refine V_getR fa_Sights_21 sk_29 rfl d_Sights_copyFrom_51 ?_
  refine V_iconst 0 d_Sights_copyFrom_54 (by decide) ?_
  refine V_bipush 8 d_Sights_copyFrom_55 (by decide) ?_
  refine N_acopy sk_16 sk_33 tc_0 tc_0 tc_8 (by (first | decide +kernel | omega)) wa_Sights_24 wA1 wA2 wA3 d_Sights_copyFrom_57 (by decide) (Nat.le_of_ble_eq_true rfl) (fun h17 eh17 => ?_)
  have hI18 : Inv h17 := inv_cpy (n := 8) hI12 eh17 (fun _ => rfl)
  have f19 : fr S_Sights_copyX_1_0 h h17 := fr_row f13 eh17 (fun _ => rfl)
  have C20 : rcp h h17 30 13 8 := rcp_row C14 eh17 (by decide)
  have C21 : rcp h h17 31 14 8 := rcp_row C15 eh17 (by decide)
  have C22 : rcp h h17 32 15 8 := rcp_row C16 eh17 (by decide)
  have C23 : rcp h h17 33 16 8 := rcp_now f13 (fun _ => rfl) eh17
  refine V_aload_n 0 d_Sights_copyFrom_60 rfl rfl ?_
  refine V_aload_n 1 d_Sights_copyFrom_61 rfl rfl ?_
  refine N_getK fa_Sights_30 sk_12 rfl d_Sights_copyFrom_62 (kn_row eh17 (kn_row eh11 (kn_row eh6 (kn_row eh2 tK (by decide)) (by decide)) (by decide)) (by decide)) ?_
  refine N_putI fp_Sights_30 sk_29 rfl d_Sights_copyFrom_65 (fun h24 eh24 => ?_)
  have hI25 : Inv h24 := inv_put (lo := 0) (hi := 8) hI18 eh24 rfl tE (by (first | decide +kernel | omega))
  have f26 : fr S_Sights_copyX_1_0 h h24 := fr_put f19 eh24 rfl
  have C27 : rcp h h24 30 13 8 := rcp_put C20 eh24 (by decide)
  have C28 : rcp h h24 31 14 8 := rcp_put C21 eh24 (by decide)
  have C29 : rcp h h24 32 15 8 := rcp_put C22 eh24 (by decide)
  have C30 : rcp h h24 33 16 8 := rcp_put C23 eh24 (by decide)
  exact V_vret rfl d_Sights_copyFrom_68 ⟨rfl, ⟨hI25, f26, ⟨((kn_put eh24).trans tK.symm), C27, C28, C29, C30⟩⟩⟩
def S_County_copyX_1_0 : List (Nat × Option Nat) := [(17, some 3), (17, some 4), (18, none), (19, none), (20, none), (21, none), (22, none), (23, none), (24, some 4), (25, none), (26, none), (27, none), (28, none), (29, some 4), (30, none), (31, none), (32, none), (33, none)]
abbrev q_County_copyX_1_0 (h : Hp) (n : Int32) (nZ : Int) (m : Int32) (mZ : Int) : Option Value → Hp → Prop := pVd (fun h' => Inv h' ∧ fr S_County_copyX_1_0 h h' ∧ (cpy h h' 17 0))
set_option maxRecDepth 100000 in
theorem c_County_copyX_1_0 (h : Hp) (hI : Inv h) (n : Int32) (nZ : Int) (nE : n.toInt = nZ) (nK : h.1 0 3 = n) (m : Int32) (mZ : Int) (mE : m.toInt = mZ) (mK : h.1 0 4 = m) : Ct y_County_copyFrom b_County_copyFrom 2 none 2 81 [.ref 17, .ref 0] h (q_County_copyX_1_0 h n nZ m mZ) := by
  refine ct_ow R_County [some (.ref 17), some (.ref 0)] rfl (by decide) rfl (Nat.le_of_ble_eq_true rfl) ?_
  have f0 : fr S_County_copyX_1_0 h h := fr_rf
  refine V_aload_n 0 d_County_copyFrom_0 rfl rfl ?_
  refine V_getR fa_County_12 sk_17 rfl d_County_copyFrom_1 ?_
  refine V_aload_n 1 d_County_copyFrom_4 rfl rfl ?_
  refine V_getR fa_County_12 sk_0 rfl d_County_copyFrom_5 ?_
  obtain ⟨z1, z1Z, z1E, z1e⟩ : ∃ (y : Int32) (Y : Int), y.toInt = Y ∧ y = h.1 1 0 := ⟨_, _, rfl, rfl⟩
  have g2 : 2 ≤ z1Z ∧ z1Z ≤ 4 := inv_at hI z1E z1e rfl
  obtain ⟨z3, z3Z, z3E, z3e⟩ : ∃ (y : Int32) (Y : Int), y.toInt = Y ∧ y = h.1 1 1 := ⟨_, _, rfl, rfl⟩
  have g4 : 2 ≤ z3Z ∧ z3Z ≤ 4 := inv_at hI z3E z3e rfl
  obtain ⟨z5, z5Z, z5E, z5e⟩ : ∃ (y : Int32) (Y : Int), y.toInt = Y ∧ y = h.1 1 2 := ⟨_, _, rfl, rfl⟩
  obtain ⟨z6, z6Z, z6E, z6e⟩ : ∃ (y : Int32) (Y : Int), y.toInt = Y ∧ y = h.1 1 3 := ⟨_, _, rfl, rfl⟩
  refine N_callVV [.ref 1] [] cv_County_47 sk_18 rfl d_County_copyFrom_8 rfl (Nat.le_of_ble_eq_true rfl) (by decide) (by decide) (c_Land_copyX_1_0 h hI z1 z1Z z1E z1e.symm z3 z3Z z3E z3e.symm z5 z5Z z5E z5e.symm z6 z6Z z6E z6e.symm) (fun h8 p9 => ?_)
  obtain ⟨hI10, fh8, p9⟩ := p9
  have f11 : fr S_County_copyX_1_0 h h8 := fr_call f0 fh8 rfl
  have qL := p9
  refine V_aload_n 0 d_County_copyFrom_11 rfl rfl ?_
  refine V_getR fa_County_21 sk_17 rfl d_County_copyFrom_12 ?_
  refine V_aload_n 1 d_County_copyFrom_15 rfl rfl ?_
  refine V_getR fa_County_21 sk_0 rfl d_County_copyFrom_16 ?_
  obtain ⟨z12, z12Z, z12E, z12e⟩ : ∃ (y : Int32) (Y : Int), y.toInt = Y ∧ y = h8.1 7 4 := ⟨_, _, rfl, rfl⟩
  have g13 : 0 ≤ z12Z ∧ z12Z ≤ 8 := inv_at hI10 z12E z12e rfl
  refine N_callVV [.ref 7] [] cv_County_51 sk_24 rfl d_County_copyFrom_19 rfl (Nat.le_of_ble_eq_true rfl) (by decide) (by decide) (c_Ledger_copyX_1_0 h8 hI10 z12 z12Z z12E z12e.symm) (fun h15 p16 => ?_)
  obtain ⟨hI17, fh15, p16⟩ := p16
  have f18 : fr S_County_copyX_1_0 h h15 := fr_call f11 fh15 rfl
  have qG := p16
  refine V_aload_n 0 d_County_copyFrom_22 rfl rfl ?_
  refine V_getR fa_County_28 sk_17 rfl d_County_copyFrom_23 ?_
  refine V_aload_n 1 d_County_copyFrom_26 rfl rfl ?_
  refine V_getR fa_County_28 sk_0 rfl d_County_copyFrom_27 ?_
  obtain ⟨z19, z19Z, z19E, z19e⟩ : ∃ (y : Int32) (Y : Int), y.toInt = Y ∧ y = h15.1 12 4 := ⟨_, _, rfl, rfl⟩
  have g20 : 0 ≤ z19Z ∧ z19Z ≤ 8 := inv_at hI17 z19E z19e rfl
  refine N_callVV [.ref 12] [] cv_County_54 sk_29 rfl d_County_copyFrom_30 rfl (Nat.le_of_ble_eq_true rfl) (by decide) (by decide) (c_Sights_copyX_1_0 h15 hI17 z19 z19Z z19E z19e.symm) (fun h22 p23 => ?_)
  obtain ⟨hI24, fh22, p23⟩ := p23
  have f25 : fr S_County_copyX_1_0 h h22 := fr_call f18 fh22 rfl
  have qS := p23
  refine V_aload_n 0 d_County_copyFrom_33 rfl rfl ?_
  refine V_aload_n 1 d_County_copyFrom_34 rfl rfl ?_
  refine N_getK fa_County_41 sk_0 rfl d_County_copyFrom_35 (kn_call fh22 (kn_call fh15 (kn_call fh8 nK rfl) rfl) rfl) ?_
  refine N_putI fp_County_41 sk_17 rfl d_County_copyFrom_38 (fun h26 eh26 => ?_)
  have hI27 : Inv h26 := inv_full hI24 eh26 rfl
  have f28 : fr S_County_copyX_1_0 h h26 := fr_put f25 eh26 rfl
  refine V_aload_n 0 d_County_copyFrom_41 rfl rfl ?_
  refine V_aload_n 1 d_County_copyFrom_42 rfl rfl ?_
  refine N_getK fa_County_44 sk_0 rfl d_County_copyFrom_43 (kn_ne eh26 (kn_call fh22 (kn_call fh15 (kn_call fh8 mK rfl) rfl) rfl) (by decide)) ?_
  refine N_putI fp_County_44 sk_17 rfl d_County_copyFrom_46 (fun h29 eh29 => ?_)
  have hI30 : Inv h29 := inv_full hI27 eh29 rfl
  have f31 : fr S_County_copyX_1_0 h h29 := fr_put f28 eh29 rfl
  exact V_vret rfl d_County_copyFrom_49 ⟨rfl, ⟨hI30, f31, (cpy_of (a := 17) (b := 0) qL fh15 qG fh22 qS fh8 eh26 eh29 nK mK rfl rfl rfl rfl)⟩⟩
def S_Land_copyX_0_1 : List (Nat × Option Nat) := [(1, none), (2, none), (3, none), (4, none), (5, none), (6, none)]
abbrev q_Land_copyX_0_1 (h : Hp) (w : Int32) (wZ : Int) (g : Int32) (gZ : Int) (x : Int32) (xZ : Int) (y : Int32) (yZ : Int) : Option Value → Hp → Prop := pVd (fun h' => Inv h' ∧ fr S_Land_copyX_0_1 h h' ∧ (h'.1 1 0 = h.1 18 0 ∧ h'.1 1 1 = h.1 18 1 ∧ h'.1 1 2 = h.1 18 2 ∧ h'.1 1 3 = h.1 18 3 ∧ rcp h h' 2 19 16 ∧ rcp h h' 3 20 16 ∧ rcp h h' 4 21 16 ∧ rcp h h' 5 22 16 ∧ rcp h h' 6 23 16))
set_option maxRecDepth 100000 in
theorem c_Land_copyX_0_1 (h : Hp) (hI : Inv h) (w : Int32) (wZ : Int) (wE : w.toInt = wZ) (wK : h.1 18 0 = w) (g : Int32) (gZ : Int) (gE : g.toInt = gZ) (gK : h.1 18 1 = g) (x : Int32) (xZ : Int) (xE : x.toInt = xZ) (xK : h.1 18 2 = x) (y : Int32) (yZ : Int) (yE : y.toInt = yZ) (yK : h.1 18 3 = y) : Ct y_Land_copyFrom b_Land_copyFrom 2 none 1 60 [.ref 1, .ref 18] h (q_Land_copyX_0_1 h w wZ g gZ x xZ y yZ) := by
  refine ct_ow R_Land [some (.ref 1), some (.ref 18)] rfl (by decide) rfl (Nat.le_of_ble_eq_true rfl) ?_
  have f0 : fr S_Land_copyX_0_1 h h := fr_rf
  have g1 : 2 ≤ wZ ∧ wZ ≤ 4 := inv_at hI wE wK.symm rfl
  have g2 : 2 ≤ gZ ∧ gZ ≤ 4 := inv_at hI gE gK.symm rfl
  refine V_aload_n 0 d_Land_copyFrom_0 rfl rfl ?_
  refine V_aload_n 1 d_Land_copyFrom_1 rfl rfl ?_
  refine N_getK fa_Land_27 sk_18 rfl d_Land_copyFrom_2 wK ?_
  refine N_putI fp_Land_27 sk_1 rfl d_Land_copyFrom_5 (fun h3 eh3 => ?_)
  have hI4 : Inv h3 := inv_put (lo := 2) (hi := 4) hI eh3 rfl wE (by (first | decide +kernel | omega))
  have f5 : fr S_Land_copyX_0_1 h h3 := fr_put f0 eh3 rfl
  refine V_aload_n 0 d_Land_copyFrom_8 rfl rfl ?_
  refine V_aload_n 1 d_Land_copyFrom_9 rfl rfl ?_
  refine N_getK fa_Land_31 sk_18 rfl d_Land_copyFrom_10 (kn_ne eh3 gK (by decide)) ?_
  refine N_putI fp_Land_31 sk_1 rfl d_Land_copyFrom_13 (fun h6 eh6 => ?_)
  have hI7 : Inv h6 := inv_put (lo := 2) (hi := 4) hI4 eh6 rfl gE (by (first | decide +kernel | omega))
  have f8 : fr S_Land_copyX_0_1 h h6 := fr_put f5 eh6 rfl
  refine V_aload_n 0 d_Land_copyFrom_16 rfl rfl ?_
  refine V_aload_n 1 d_Land_copyFrom_17 rfl rfl ?_
  refine N_getK fa_Land_34 sk_18 rfl d_Land_copyFrom_18 (kn_ne eh6 (kn_ne eh3 xK (by decide)) (by decide)) ?_
  refine N_putI fp_Land_34 sk_1 rfl d_Land_copyFrom_21 (fun h9 eh9 => ?_)
  have hI10 : Inv h9 := inv_full hI7 eh9 rfl
  have f11 : fr S_Land_copyX_0_1 h h9 := fr_put f8 eh9 rfl
  refine V_aload_n 0 d_Land_copyFrom_24 rfl rfl ?_
  refine V_aload_n 1 d_Land_copyFrom_25 rfl rfl ?_
  refine N_getK fa_Land_37 sk_18 rfl d_Land_copyFrom_26 (kn_ne eh9 (kn_ne eh6 (kn_ne eh3 yK (by decide)) (by decide)) (by decide)) ?_
  refine N_putI fp_Land_37 sk_1 rfl d_Land_copyFrom_29 (fun h12 eh12 => ?_)
  have hI13 : Inv h12 := inv_full hI10 eh12 rfl
  have f14 : fr S_Land_copyX_0_1 h h12 := fr_put f11 eh12 rfl
  refine V_aload_n 1 d_Land_copyFrom_32 rfl rfl ?_
  refine V_getR fa_Land_9 sk_18 rfl d_Land_copyFrom_33 ?_
  refine V_iconst 0 d_Land_copyFrom_36 (by decide) ?_
  refine V_aload_n 0 d_Land_copyFrom_37 rfl rfl ?_
  refine V_getR fa_Land_9 sk_1 rfl d_Land_copyFrom_38 ?_
  refine V_iconst 0 d_Land_copyFrom_41 (by decide) ?_
  refine V_bipush 16 d_Land_copyFrom_42 (by decide) ?_
  refine N_acopy sk_19 sk_2 tc_0 tc_0 tc_16 (by (first | decide +kernel | omega)) wa_Land_46 wA1 wA2 wA3 d_Land_copyFrom_44 (by decide) (Nat.le_of_ble_eq_true rfl) (fun h15 eh15 => ?_)
  have hI16 : Inv h15 := inv_cpy (n := 16) hI13 eh15 (fun _ => rfl)
  have f17 : fr S_Land_copyX_0_1 h h15 := fr_row f14 eh15 (fun _ => rfl)
  have C18 : rcp h h15 2 19 16 := rcp_now f14 (fun _ => rfl) eh15
  refine V_aload_n 1 d_Land_copyFrom_47 rfl rfl ?_
  refine V_getR fa_Land_15 sk_18 rfl d_Land_copyFrom_48 ?_
  refine V_iconst 0 d_Land_copyFrom_51 (by decide) ?_
  refine V_aload_n 0 d_Land_copyFrom_52 rfl rfl ?_
  refine V_getR fa_Land_15 sk_1 rfl d_Land_copyFrom_53 ?_
  refine V_iconst 0 d_Land_copyFrom_56 (by decide) ?_
  refine V_bipush 16 d_Land_copyFrom_57 (by decide) ?_
  refine N_acopy sk_20 sk_3 tc_0 tc_0 tc_16 (by (first | decide +kernel | omega)) wa_Land_46 wA1 wA2 wA3 d_Land_copyFrom_59 (by decide) (Nat.le_of_ble_eq_true rfl) (fun h19 eh19 => ?_)
  have hI20 : Inv h19 := inv_cpy (n := 16) hI16 eh19 (fun _ => rfl)
  have f21 : fr S_Land_copyX_0_1 h h19 := fr_row f17 eh19 (fun _ => rfl)
  have C22 : rcp h h19 2 19 16 := rcp_row C18 eh19 (by decide)
  have C23 : rcp h h19 3 20 16 := rcp_now f17 (fun _ => rfl) eh19
  refine V_aload_n 1 d_Land_copyFrom_62 rfl rfl ?_
  refine V_getR fa_Land_18 sk_18 rfl d_Land_copyFrom_63 ?_
  refine V_iconst 0 d_Land_copyFrom_66 (by decide) ?_
  refine V_aload_n 0 d_Land_copyFrom_67 rfl rfl ?_
  refine V_getR fa_Land_18 sk_1 rfl d_Land_copyFrom_68 ?_
  refine V_iconst 0 d_Land_copyFrom_71 (by decide) ?_
  refine V_bipush 16 d_Land_copyFrom_72 (by decide) ?_
  refine N_acopy sk_21 sk_4 tc_0 tc_0 tc_16 (by (first | decide +kernel | omega)) wa_Land_46 wA1 wA2 wA3 d_Land_copyFrom_74 (by decide) (Nat.le_of_ble_eq_true rfl) (fun h24 eh24 => ?_)
  have hI25 : Inv h24 := inv_cpy (n := 16) hI20 eh24 (fun _ => rfl)
  have f26 : fr S_Land_copyX_0_1 h h24 := fr_row f21 eh24 (fun _ => rfl)
  have C27 : rcp h h24 2 19 16 := rcp_row C22 eh24 (by decide)
  have C28 : rcp h h24 3 20 16 := rcp_row C23 eh24 (by decide)
  have C29 : rcp h h24 4 21 16 := rcp_now f21 (fun _ => rfl) eh24
  refine V_aload_n 1 d_Land_copyFrom_77 rfl rfl ?_
  refine V_getR fa_Land_21 sk_18 rfl d_Land_copyFrom_78 ?_
  refine V_iconst 0 d_Land_copyFrom_81 (by decide) ?_
  refine V_aload_n 0 d_Land_copyFrom_82 rfl rfl ?_
  refine V_getR fa_Land_21 sk_1 rfl d_Land_copyFrom_83 ?_
  refine V_iconst 0 d_Land_copyFrom_86 (by decide) ?_
  refine V_bipush 16 d_Land_copyFrom_87 (by decide) ?_
  refine N_acopy sk_22 sk_5 tc_0 tc_0 tc_16 (by (first | decide +kernel | omega)) wa_Land_46 wA1 wA2 wA3 d_Land_copyFrom_89 (by decide) (Nat.le_of_ble_eq_true rfl) (fun h30 eh30 => ?_)
  have hI31 : Inv h30 := inv_cpy (n := 16) hI25 eh30 (fun _ => rfl)
  have f32 : fr S_Land_copyX_0_1 h h30 := fr_row f26 eh30 (fun _ => rfl)
  have C33 : rcp h h30 2 19 16 := rcp_row C27 eh30 (by decide)
  have C34 : rcp h h30 3 20 16 := rcp_row C28 eh30 (by decide)
  have C35 : rcp h h30 4 21 16 := rcp_row C29 eh30 (by decide)
  have C36 : rcp h h30 5 22 16 := rcp_now f26 (fun _ => rfl) eh30
  refine V_aload_n 1 d_Land_copyFrom_92 rfl rfl ?_
  refine V_getR fa_Land_24 sk_18 rfl d_Land_copyFrom_93 ?_
  refine V_iconst 0 d_Land_copyFrom_96 (by decide) ?_
  refine V_aload_n 0 d_Land_copyFrom_97 rfl rfl ?_
  refine V_getR fa_Land_24 sk_1 rfl d_Land_copyFrom_98 ?_
  refine V_iconst 0 d_Land_copyFrom_101 (by decide) ?_
  refine V_bipush 16 d_Land_copyFrom_102 (by decide) ?_
  refine N_acopy sk_23 sk_6 tc_0 tc_0 tc_16 (by (first | decide +kernel | omega)) wa_Land_46 wA1 wA2 wA3 d_Land_copyFrom_104 (by decide) (Nat.le_of_ble_eq_true rfl) (fun h37 eh37 => ?_)
  have hI38 : Inv h37 := inv_cpy (n := 16) hI31 eh37 (fun _ => rfl)
  have f39 : fr S_Land_copyX_0_1 h h37 := fr_row f32 eh37 (fun _ => rfl)
  have C40 : rcp h h37 2 19 16 := rcp_row C33 eh37 (by decide)
  have C41 : rcp h h37 3 20 16 := rcp_row C34 eh37 (by decide)
  have C42 : rcp h h37 4 21 16 := rcp_row C35 eh37 (by decide)
  have C43 : rcp h h37 5 22 16 := rcp_row C36 eh37 (by decide)
  have C44 : rcp h h37 6 23 16 := rcp_now f32 (fun _ => rfl) eh37
  exact V_vret rfl d_Land_copyFrom_107 ⟨rfl, ⟨hI38, f39, ⟨((kn_row eh37 (kn_row eh30 (kn_row eh24 (kn_row eh19 (kn_row eh15 (kn_nei eh12 (kn_nei eh9 (kn_nei eh6 (kn_put eh3) (by decide)) (by decide)) (by decide)) (by decide)) (by decide)) (by decide)) (by decide)) (by decide)).trans wK.symm), ((kn_row eh37 (kn_row eh30 (kn_row eh24 (kn_row eh19 (kn_row eh15 (kn_nei eh12 (kn_nei eh9 (kn_put eh6) (by decide)) (by decide)) (by decide)) (by decide)) (by decide)) (by decide)) (by decide)).trans gK.symm), ((kn_row eh37 (kn_row eh30 (kn_row eh24 (kn_row eh19 (kn_row eh15 (kn_nei eh12 (kn_put eh9) (by decide)) (by decide)) (by decide)) (by decide)) (by decide)) (by decide)).trans xK.symm), ((kn_row eh37 (kn_row eh30 (kn_row eh24 (kn_row eh19 (kn_row eh15 (kn_put eh12) (by decide)) (by decide)) (by decide)) (by decide)) (by decide)).trans yK.symm), C40, C41, C42, C43, C44⟩⟩⟩
def S_Ledger_copyX_0_1 : List (Nat × Option Nat) := [(7, some 4), (8, none), (9, none), (10, none), (11, none)]
abbrev q_Ledger_copyX_0_1 (h : Hp) (t : Int32) (tZ : Int) : Option Value → Hp → Prop := pVd (fun h' => Inv h' ∧ fr S_Ledger_copyX_0_1 h h' ∧ (h'.1 7 4 = h.1 24 4 ∧ rcp h h' 8 25 4 ∧ rcp h h' 9 26 8 ∧ rcp h h' 10 27 8 ∧ rcp h h' 11 28 8))
set_option maxRecDepth 100000 in
theorem c_Ledger_copyX_0_1 (h : Hp) (hI : Inv h) (t : Int32) (tZ : Int) (tE : t.toInt = tZ) (tK : h.1 24 4 = t) : Ct y_Ledger_copyFrom b_Ledger_copyFrom 2 none 1 60 [.ref 7, .ref 24] h (q_Ledger_copyX_0_1 h t tZ) := by
  refine ct_ow R_Ledger [some (.ref 7), some (.ref 24)] rfl (by decide) rfl (Nat.le_of_ble_eq_true rfl) ?_
  have f0 : fr S_Ledger_copyX_0_1 h h := fr_rf
  have g1 : 0 ≤ tZ ∧ tZ ≤ 8 := inv_at hI tE tK.symm rfl
  refine V_aload_n 1 d_Ledger_copyFrom_0 rfl rfl ?_
  refine V_getR fa_Ledger_9 sk_24 rfl d_Ledger_copyFrom_1 ?_
  refine V_iconst 0 d_Ledger_copyFrom_4 (by decide) ?_
  refine V_aload_n 0 d_Ledger_copyFrom_5 rfl rfl ?_
  refine V_getR fa_Ledger_9 sk_7 rfl d_Ledger_copyFrom_6 ?_
  refine V_iconst 0 d_Ledger_copyFrom_9 (by decide) ?_
  refine V_iconst 4 d_Ledger_copyFrom_10 (by decide) ?_
  refine N_acopy sk_25 sk_8 tc_0 tc_0 tc_4 (by (first | decide +kernel | omega)) wa_Ledger_34 wA1 wA2 wA3 d_Ledger_copyFrom_11 (by decide) (Nat.le_of_ble_eq_true rfl) (fun h2 eh2 => ?_)
  have hI3 : Inv h2 := inv_cpy (n := 4) hI eh2 (fun _ => rfl)
  have f4 : fr S_Ledger_copyX_0_1 h h2 := fr_row f0 eh2 (fun _ => rfl)
  have C5 : rcp h h2 8 25 4 := rcp_now f0 (fun _ => rfl) eh2
  refine V_aload_n 1 d_Ledger_copyFrom_14 rfl rfl ?_
  refine V_getR fa_Ledger_15 sk_24 rfl d_Ledger_copyFrom_15 ?_
  refine V_iconst 0 d_Ledger_copyFrom_18 (by decide) ?_
  refine V_aload_n 0 d_Ledger_copyFrom_19 rfl rfl ?_
  refine V_getR fa_Ledger_15 sk_7 rfl d_Ledger_copyFrom_20 ?_
  refine V_iconst 0 d_Ledger_copyFrom_23 (by decide) ?_
  refine V_bipush 8 d_Ledger_copyFrom_24 (by decide) ?_
  refine N_acopy sk_26 sk_9 tc_0 tc_0 tc_8 (by (first | decide +kernel | omega)) wa_Ledger_34 wA1 wA2 wA3 d_Ledger_copyFrom_26 (by decide) (Nat.le_of_ble_eq_true rfl) (fun h6 eh6 => ?_)
  have hI7 : Inv h6 := inv_cpy (n := 8) hI3 eh6 (fun _ => rfl)
  have f8 : fr S_Ledger_copyX_0_1 h h6 := fr_row f4 eh6 (fun _ => rfl)
  have C9 : rcp h h6 8 25 4 := rcp_row C5 eh6 (by decide)
  have C10 : rcp h h6 9 26 8 := rcp_now f4 (fun _ => rfl) eh6
  refine V_aload_n 1 d_Ledger_copyFrom_29 rfl rfl ?_
  refine V_getR fa_Ledger_18 sk_24 rfl d_Ledger_copyFrom_30 ?_
  refine V_iconst 0 d_Ledger_copyFrom_33 (by decide) ?_
  refine V_aload_n 0 d_Ledger_copyFrom_34 rfl rfl ?_
  refine V_getR fa_Ledger_18 sk_7 rfl d_Ledger_copyFrom_35 ?_
  refine V_iconst 0 d_Ledger_copyFrom_38 (by decide) ?_
  refine V_bipush 8 d_Ledger_copyFrom_39 (by decide) ?_
  refine N_acopy sk_27 sk_10 tc_0 tc_0 tc_8 (by (first | decide +kernel | omega)) wa_Ledger_34 wA1 wA2 wA3 d_Ledger_copyFrom_41 (by decide) (Nat.le_of_ble_eq_true rfl) (fun h11 eh11 => ?_)
  have hI12 : Inv h11 := inv_cpy (n := 8) hI7 eh11 (fun _ => rfl)
  have f13 : fr S_Ledger_copyX_0_1 h h11 := fr_row f8 eh11 (fun _ => rfl)
  have C14 : rcp h h11 8 25 4 := rcp_row C9 eh11 (by decide)
  have C15 : rcp h h11 9 26 8 := rcp_row C10 eh11 (by decide)
  have C16 : rcp h h11 10 27 8 := rcp_now f8 (fun _ => rfl) eh11
  refine V_aload_n 1 d_Ledger_copyFrom_44 rfl rfl ?_
  refine V_getR fa_Ledger_21 sk_24 rfl d_Ledger_copyFrom_45 ?_
  refine V_iconst 0 d_Ledger_copyFrom_48 (by decide) ?_
  refine V_aload_n 0 d_Ledger_copyFrom_49 rfl rfl ?_
  refine V_getR fa_Ledger_21 sk_7 rfl d_Ledger_copyFrom_50 ?_
  refine V_iconst 0 d_Ledger_copyFrom_53 (by decide) ?_
  refine V_bipush 8 d_Ledger_copyFrom_54 (by decide) ?_
  refine N_acopy sk_28 sk_11 tc_0 tc_0 tc_8 (by (first | decide +kernel | omega)) wa_Ledger_34 wA1 wA2 wA3 d_Ledger_copyFrom_56 (by decide) (Nat.le_of_ble_eq_true rfl) (fun h17 eh17 => ?_)
  have hI18 : Inv h17 := inv_cpy (n := 8) hI12 eh17 (fun _ => rfl)
  have f19 : fr S_Ledger_copyX_0_1 h h17 := fr_row f13 eh17 (fun _ => rfl)
  have C20 : rcp h h17 8 25 4 := rcp_row C14 eh17 (by decide)
  have C21 : rcp h h17 9 26 8 := rcp_row C15 eh17 (by decide)
  have C22 : rcp h h17 10 27 8 := rcp_row C16 eh17 (by decide)
  have C23 : rcp h h17 11 28 8 := rcp_now f13 (fun _ => rfl) eh17
  refine V_aload_n 0 d_Ledger_copyFrom_59 rfl rfl ?_
  refine V_aload_n 1 d_Ledger_copyFrom_60 rfl rfl ?_
  refine N_getK fa_Ledger_30 sk_24 rfl d_Ledger_copyFrom_61 (kn_row eh17 (kn_row eh11 (kn_row eh6 (kn_row eh2 tK (by decide)) (by decide)) (by decide)) (by decide)) ?_
  refine N_putI fp_Ledger_30 sk_7 rfl d_Ledger_copyFrom_64 (fun h24 eh24 => ?_)
  have hI25 : Inv h24 := inv_put (lo := 0) (hi := 8) hI18 eh24 rfl tE (by (first | decide +kernel | omega))
  have f26 : fr S_Ledger_copyX_0_1 h h24 := fr_put f19 eh24 rfl
  have C27 : rcp h h24 8 25 4 := rcp_put C20 eh24 (by decide)
  have C28 : rcp h h24 9 26 8 := rcp_put C21 eh24 (by decide)
  have C29 : rcp h h24 10 27 8 := rcp_put C22 eh24 (by decide)
  have C30 : rcp h h24 11 28 8 := rcp_put C23 eh24 (by decide)
  exact V_vret rfl d_Ledger_copyFrom_67 ⟨rfl, ⟨hI25, f26, ⟨((kn_put eh24).trans tK.symm), C27, C28, C29, C30⟩⟩⟩
def S_Sights_copyX_0_1 : List (Nat × Option Nat) := [(12, some 4), (13, none), (14, none), (15, none), (16, none)]
abbrev q_Sights_copyX_0_1 (h : Hp) (t : Int32) (tZ : Int) : Option Value → Hp → Prop := pVd (fun h' => Inv h' ∧ fr S_Sights_copyX_0_1 h h' ∧ (h'.1 12 4 = h.1 29 4 ∧ rcp h h' 13 30 8 ∧ rcp h h' 14 31 8 ∧ rcp h h' 15 32 8 ∧ rcp h h' 16 33 8))
set_option maxRecDepth 100000 in
theorem c_Sights_copyX_0_1 (h : Hp) (hI : Inv h) (t : Int32) (tZ : Int) (tE : t.toInt = tZ) (tK : h.1 29 4 = t) : Ct y_Sights_copyFrom b_Sights_copyFrom 2 none 1 60 [.ref 12, .ref 29] h (q_Sights_copyX_0_1 h t tZ) := by
  refine ct_ow R_Sights [some (.ref 12), some (.ref 29)] rfl (by decide) rfl (Nat.le_of_ble_eq_true rfl) ?_
  have f0 : fr S_Sights_copyX_0_1 h h := fr_rf
  have g1 : 0 ≤ tZ ∧ tZ ≤ 8 := inv_at hI tE tK.symm rfl
  refine V_aload_n 1 d_Sights_copyFrom_0 rfl rfl ?_
  refine V_getR fa_Sights_9 sk_29 rfl d_Sights_copyFrom_1 ?_
  refine V_iconst 0 d_Sights_copyFrom_4 (by decide) ?_
  refine V_aload_n 0 d_Sights_copyFrom_5 rfl rfl ?_
  refine V_getR fa_Sights_9 sk_12 rfl d_Sights_copyFrom_6 ?_
  refine V_iconst 0 d_Sights_copyFrom_9 (by decide) ?_
  refine V_bipush 8 d_Sights_copyFrom_10 (by decide) ?_
  refine N_acopy sk_30 sk_13 tc_0 tc_0 tc_8 (by (first | decide +kernel | omega)) wa_Sights_24 wA1 wA2 wA3 d_Sights_copyFrom_12 (by decide) (Nat.le_of_ble_eq_true rfl) (fun h2 eh2 => ?_)
  have hI3 : Inv h2 := inv_cpy (n := 8) hI eh2 (fun _ => rfl)
  have f4 : fr S_Sights_copyX_0_1 h h2 := fr_row f0 eh2 (fun _ => rfl)
  have C5 : rcp h h2 13 30 8 := rcp_now f0 (fun _ => rfl) eh2
  refine V_aload_n 1 d_Sights_copyFrom_15 rfl rfl ?_
  refine V_getR fa_Sights_15 sk_29 rfl d_Sights_copyFrom_16 ?_
  refine V_iconst 0 d_Sights_copyFrom_19 (by decide) ?_
  refine V_aload_n 0 d_Sights_copyFrom_20 rfl rfl ?_
  refine V_getR fa_Sights_15 sk_12 rfl d_Sights_copyFrom_21 ?_
  refine V_iconst 0 d_Sights_copyFrom_24 (by decide) ?_
  refine V_bipush 8 d_Sights_copyFrom_25 (by decide) ?_
  refine N_acopy sk_31 sk_14 tc_0 tc_0 tc_8 (by (first | decide +kernel | omega)) wa_Sights_24 wA1 wA2 wA3 d_Sights_copyFrom_27 (by decide) (Nat.le_of_ble_eq_true rfl) (fun h6 eh6 => ?_)
  have hI7 : Inv h6 := inv_cpy (n := 8) hI3 eh6 (fun _ => rfl)
  have f8 : fr S_Sights_copyX_0_1 h h6 := fr_row f4 eh6 (fun _ => rfl)
  have C9 : rcp h h6 13 30 8 := rcp_row C5 eh6 (by decide)
  have C10 : rcp h h6 14 31 8 := rcp_now f4 (fun _ => rfl) eh6
  refine V_aload_n 1 d_Sights_copyFrom_30 rfl rfl ?_
  refine V_getR fa_Sights_18 sk_29 rfl d_Sights_copyFrom_31 ?_
  refine V_iconst 0 d_Sights_copyFrom_34 (by decide) ?_
  refine V_aload_n 0 d_Sights_copyFrom_35 rfl rfl ?_
  refine V_getR fa_Sights_18 sk_12 rfl d_Sights_copyFrom_36 ?_
  refine V_iconst 0 d_Sights_copyFrom_39 (by decide) ?_
  refine V_bipush 8 d_Sights_copyFrom_40 (by decide) ?_
  refine N_acopy sk_32 sk_15 tc_0 tc_0 tc_8 (by (first | decide +kernel | omega)) wa_Sights_24 wA1 wA2 wA3 d_Sights_copyFrom_42 (by decide) (Nat.le_of_ble_eq_true rfl) (fun h11 eh11 => ?_)
  have hI12 : Inv h11 := inv_cpy (n := 8) hI7 eh11 (fun _ => rfl)
  have f13 : fr S_Sights_copyX_0_1 h h11 := fr_row f8 eh11 (fun _ => rfl)
  have C14 : rcp h h11 13 30 8 := rcp_row C9 eh11 (by decide)
  have C15 : rcp h h11 14 31 8 := rcp_row C10 eh11 (by decide)
  have C16 : rcp h h11 15 32 8 := rcp_now f8 (fun _ => rfl) eh11
  refine V_aload_n 1 d_Sights_copyFrom_45 rfl rfl ?_
  refine V_getR fa_Sights_21 sk_29 rfl d_Sights_copyFrom_46 ?_
  refine V_iconst 0 d_Sights_copyFrom_49 (by decide) ?_
  refine V_aload_n 0 d_Sights_copyFrom_50 rfl rfl ?_
  refine V_getR fa_Sights_21 sk_12 rfl d_Sights_copyFrom_51 ?_
  refine V_iconst 0 d_Sights_copyFrom_54 (by decide) ?_
  refine V_bipush 8 d_Sights_copyFrom_55 (by decide) ?_
  refine N_acopy sk_33 sk_16 tc_0 tc_0 tc_8 (by (first | decide +kernel | omega)) wa_Sights_24 wA1 wA2 wA3 d_Sights_copyFrom_57 (by decide) (Nat.le_of_ble_eq_true rfl) (fun h17 eh17 => ?_)
  have hI18 : Inv h17 := inv_cpy (n := 8) hI12 eh17 (fun _ => rfl)
  have f19 : fr S_Sights_copyX_0_1 h h17 := fr_row f13 eh17 (fun _ => rfl)
  have C20 : rcp h h17 13 30 8 := rcp_row C14 eh17 (by decide)
  have C21 : rcp h h17 14 31 8 := rcp_row C15 eh17 (by decide)
  have C22 : rcp h h17 15 32 8 := rcp_row C16 eh17 (by decide)
  have C23 : rcp h h17 16 33 8 := rcp_now f13 (fun _ => rfl) eh17
  refine V_aload_n 0 d_Sights_copyFrom_60 rfl rfl ?_
  refine V_aload_n 1 d_Sights_copyFrom_61 rfl rfl ?_
  refine N_getK fa_Sights_30 sk_29 rfl d_Sights_copyFrom_62 (kn_row eh17 (kn_row eh11 (kn_row eh6 (kn_row eh2 tK (by decide)) (by decide)) (by decide)) (by decide)) ?_
  refine N_putI fp_Sights_30 sk_12 rfl d_Sights_copyFrom_65 (fun h24 eh24 => ?_)
  have hI25 : Inv h24 := inv_put (lo := 0) (hi := 8) hI18 eh24 rfl tE (by (first | decide +kernel | omega))
  have f26 : fr S_Sights_copyX_0_1 h h24 := fr_put f19 eh24 rfl
  have C27 : rcp h h24 13 30 8 := rcp_put C20 eh24 (by decide)
  have C28 : rcp h h24 14 31 8 := rcp_put C21 eh24 (by decide)
  have C29 : rcp h h24 15 32 8 := rcp_put C22 eh24 (by decide)
  have C30 : rcp h h24 16 33 8 := rcp_put C23 eh24 (by decide)
  exact V_vret rfl d_Sights_copyFrom_68 ⟨rfl, ⟨hI25, f26, ⟨((kn_put eh24).trans tK.symm), C27, C28, C29, C30⟩⟩⟩
def S_County_copyX_0_1 : List (Nat × Option Nat) := [(0, some 3), (0, some 4), (1, none), (2, none), (3, none), (4, none), (5, none), (6, none), (7, some 4), (8, none), (9, none), (10, none), (11, none), (12, some 4), (13, none), (14, none), (15, none), (16, none)]
abbrev q_County_copyX_0_1 (h : Hp) (n : Int32) (nZ : Int) (m : Int32) (mZ : Int) : Option Value → Hp → Prop := pVd (fun h' => Inv h' ∧ fr S_County_copyX_0_1 h h' ∧ (cpy h h' 0 17))
set_option maxRecDepth 100000 in
theorem c_County_copyX_0_1 (h : Hp) (hI : Inv h) (n : Int32) (nZ : Int) (nE : n.toInt = nZ) (nK : h.1 17 3 = n) (m : Int32) (mZ : Int) (mE : m.toInt = mZ) (mK : h.1 17 4 = m) : Ct y_County_copyFrom b_County_copyFrom 2 none 2 81 [.ref 0, .ref 17] h (q_County_copyX_0_1 h n nZ m mZ) := by
  refine ct_ow R_County [some (.ref 0), some (.ref 17)] rfl (by decide) rfl (Nat.le_of_ble_eq_true rfl) ?_
  have f0 : fr S_County_copyX_0_1 h h := fr_rf
  refine V_aload_n 0 d_County_copyFrom_0 rfl rfl ?_
  refine V_getR fa_County_12 sk_0 rfl d_County_copyFrom_1 ?_
  refine V_aload_n 1 d_County_copyFrom_4 rfl rfl ?_
  refine V_getR fa_County_12 sk_17 rfl d_County_copyFrom_5 ?_
  obtain ⟨z1, z1Z, z1E, z1e⟩ : ∃ (y : Int32) (Y : Int), y.toInt = Y ∧ y = h.1 18 0 := ⟨_, _, rfl, rfl⟩
  have g2 : 2 ≤ z1Z ∧ z1Z ≤ 4 := inv_at hI z1E z1e rfl
  obtain ⟨z3, z3Z, z3E, z3e⟩ : ∃ (y : Int32) (Y : Int), y.toInt = Y ∧ y = h.1 18 1 := ⟨_, _, rfl, rfl⟩
  have g4 : 2 ≤ z3Z ∧ z3Z ≤ 4 := inv_at hI z3E z3e rfl
  obtain ⟨z5, z5Z, z5E, z5e⟩ : ∃ (y : Int32) (Y : Int), y.toInt = Y ∧ y = h.1 18 2 := ⟨_, _, rfl, rfl⟩
  obtain ⟨z6, z6Z, z6E, z6e⟩ : ∃ (y : Int32) (Y : Int), y.toInt = Y ∧ y = h.1 18 3 := ⟨_, _, rfl, rfl⟩
  refine N_callVV [.ref 18] [] cv_County_47 sk_1 rfl d_County_copyFrom_8 rfl (Nat.le_of_ble_eq_true rfl) (by decide) (by decide) (c_Land_copyX_0_1 h hI z1 z1Z z1E z1e.symm z3 z3Z z3E z3e.symm z5 z5Z z5E z5e.symm z6 z6Z z6E z6e.symm) (fun h8 p9 => ?_)
  obtain ⟨hI10, fh8, p9⟩ := p9
  have f11 : fr S_County_copyX_0_1 h h8 := fr_call f0 fh8 rfl
  have qL := p9
  refine V_aload_n 0 d_County_copyFrom_11 rfl rfl ?_
  refine V_getR fa_County_21 sk_0 rfl d_County_copyFrom_12 ?_
  refine V_aload_n 1 d_County_copyFrom_15 rfl rfl ?_
  refine V_getR fa_County_21 sk_17 rfl d_County_copyFrom_16 ?_
  obtain ⟨z12, z12Z, z12E, z12e⟩ : ∃ (y : Int32) (Y : Int), y.toInt = Y ∧ y = h8.1 24 4 := ⟨_, _, rfl, rfl⟩
  have g13 : 0 ≤ z12Z ∧ z12Z ≤ 8 := inv_at hI10 z12E z12e rfl
  refine N_callVV [.ref 24] [] cv_County_51 sk_7 rfl d_County_copyFrom_19 rfl (Nat.le_of_ble_eq_true rfl) (by decide) (by decide) (c_Ledger_copyX_0_1 h8 hI10 z12 z12Z z12E z12e.symm) (fun h15 p16 => ?_)
  obtain ⟨hI17, fh15, p16⟩ := p16
  have f18 : fr S_County_copyX_0_1 h h15 := fr_call f11 fh15 rfl
  have qG := p16
  refine V_aload_n 0 d_County_copyFrom_22 rfl rfl ?_
  refine V_getR fa_County_28 sk_0 rfl d_County_copyFrom_23 ?_
  refine V_aload_n 1 d_County_copyFrom_26 rfl rfl ?_
  refine V_getR fa_County_28 sk_17 rfl d_County_copyFrom_27 ?_
  obtain ⟨z19, z19Z, z19E, z19e⟩ : ∃ (y : Int32) (Y : Int), y.toInt = Y ∧ y = h15.1 29 4 := ⟨_, _, rfl, rfl⟩
  have g20 : 0 ≤ z19Z ∧ z19Z ≤ 8 := inv_at hI17 z19E z19e rfl
  refine N_callVV [.ref 29] [] cv_County_54 sk_12 rfl d_County_copyFrom_30 rfl (Nat.le_of_ble_eq_true rfl) (by decide) (by decide) (c_Sights_copyX_0_1 h15 hI17 z19 z19Z z19E z19e.symm) (fun h22 p23 => ?_)
  obtain ⟨hI24, fh22, p23⟩ := p23
  have f25 : fr S_County_copyX_0_1 h h22 := fr_call f18 fh22 rfl
  have qS := p23
  refine V_aload_n 0 d_County_copyFrom_33 rfl rfl ?_
  refine V_aload_n 1 d_County_copyFrom_34 rfl rfl ?_
  refine N_getK fa_County_41 sk_17 rfl d_County_copyFrom_35 (kn_call fh22 (kn_call fh15 (kn_call fh8 nK rfl) rfl) rfl) ?_
  refine N_putI fp_County_41 sk_0 rfl d_County_copyFrom_38 (fun h26 eh26 => ?_)
  have hI27 : Inv h26 := inv_full hI24 eh26 rfl
  have f28 : fr S_County_copyX_0_1 h h26 := fr_put f25 eh26 rfl
  refine V_aload_n 0 d_County_copyFrom_41 rfl rfl ?_
  refine V_aload_n 1 d_County_copyFrom_42 rfl rfl ?_
  refine N_getK fa_County_44 sk_17 rfl d_County_copyFrom_43 (kn_ne eh26 (kn_call fh22 (kn_call fh15 (kn_call fh8 mK rfl) rfl) rfl) (by decide)) ?_
  refine N_putI fp_County_44 sk_0 rfl d_County_copyFrom_46 (fun h29 eh29 => ?_)
  have hI30 : Inv h29 := inv_full hI27 eh29 rfl
  have f31 : fr S_County_copyX_0_1 h h29 := fr_put f28 eh29 rfl
  exact V_vret rfl d_County_copyFrom_49 ⟨rfl, ⟨hI30, f31, (cpy_of (a := 0) (b := 17) qL fh15 qG fh22 qS fh8 eh26 eh29 nK mK rfl rfl rfl rfl)⟩⟩
def S_Land_copyX_2_0 : List (Nat × Option Nat) := [(35, none), (36, none), (37, none), (38, none), (39, none), (40, none)]
abbrev q_Land_copyX_2_0 (h : Hp) (w : Int32) (wZ : Int) (g : Int32) (gZ : Int) (x : Int32) (xZ : Int) (y : Int32) (yZ : Int) : Option Value → Hp → Prop := pVd (fun h' => Inv h' ∧ fr S_Land_copyX_2_0 h h' ∧ (h'.1 35 0 = h.1 1 0 ∧ h'.1 35 1 = h.1 1 1 ∧ h'.1 35 2 = h.1 1 2 ∧ h'.1 35 3 = h.1 1 3 ∧ rcp h h' 36 2 16 ∧ rcp h h' 37 3 16 ∧ rcp h h' 38 4 16 ∧ rcp h h' 39 5 16 ∧ rcp h h' 40 6 16))
set_option maxRecDepth 100000 in
theorem c_Land_copyX_2_0 (h : Hp) (hI : Inv h) (w : Int32) (wZ : Int) (wE : w.toInt = wZ) (wK : h.1 1 0 = w) (g : Int32) (gZ : Int) (gE : g.toInt = gZ) (gK : h.1 1 1 = g) (x : Int32) (xZ : Int) (xE : x.toInt = xZ) (xK : h.1 1 2 = x) (y : Int32) (yZ : Int) (yE : y.toInt = yZ) (yK : h.1 1 3 = y) : Ct y_Land_copyFrom b_Land_copyFrom 2 none 1 60 [.ref 35, .ref 1] h (q_Land_copyX_2_0 h w wZ g gZ x xZ y yZ) := by
  refine ct_ow R_Land [some (.ref 35), some (.ref 1)] rfl (by decide) rfl (Nat.le_of_ble_eq_true rfl) ?_
  have f0 : fr S_Land_copyX_2_0 h h := fr_rf
  have g1 : 2 ≤ wZ ∧ wZ ≤ 4 := inv_at hI wE wK.symm rfl
  have g2 : 2 ≤ gZ ∧ gZ ≤ 4 := inv_at hI gE gK.symm rfl
  refine V_aload_n 0 d_Land_copyFrom_0 rfl rfl ?_
  refine V_aload_n 1 d_Land_copyFrom_1 rfl rfl ?_
  refine N_getK fa_Land_27 sk_1 rfl d_Land_copyFrom_2 wK ?_
  refine N_putI fp_Land_27 sk_35 rfl d_Land_copyFrom_5 (fun h3 eh3 => ?_)
  have hI4 : Inv h3 := inv_put (lo := 2) (hi := 4) hI eh3 rfl wE (by (first | decide +kernel | omega))
  have f5 : fr S_Land_copyX_2_0 h h3 := fr_put f0 eh3 rfl
  refine V_aload_n 0 d_Land_copyFrom_8 rfl rfl ?_
  refine V_aload_n 1 d_Land_copyFrom_9 rfl rfl ?_
  refine N_getK fa_Land_31 sk_1 rfl d_Land_copyFrom_10 (kn_ne eh3 gK (by decide)) ?_
  refine N_putI fp_Land_31 sk_35 rfl d_Land_copyFrom_13 (fun h6 eh6 => ?_)
  have hI7 : Inv h6 := inv_put (lo := 2) (hi := 4) hI4 eh6 rfl gE (by (first | decide +kernel | omega))
  have f8 : fr S_Land_copyX_2_0 h h6 := fr_put f5 eh6 rfl
  refine V_aload_n 0 d_Land_copyFrom_16 rfl rfl ?_
  refine V_aload_n 1 d_Land_copyFrom_17 rfl rfl ?_
  refine N_getK fa_Land_34 sk_1 rfl d_Land_copyFrom_18 (kn_ne eh6 (kn_ne eh3 xK (by decide)) (by decide)) ?_
  refine N_putI fp_Land_34 sk_35 rfl d_Land_copyFrom_21 (fun h9 eh9 => ?_)
  have hI10 : Inv h9 := inv_full hI7 eh9 rfl
  have f11 : fr S_Land_copyX_2_0 h h9 := fr_put f8 eh9 rfl
  refine V_aload_n 0 d_Land_copyFrom_24 rfl rfl ?_
  refine V_aload_n 1 d_Land_copyFrom_25 rfl rfl ?_
  refine N_getK fa_Land_37 sk_1 rfl d_Land_copyFrom_26 (kn_ne eh9 (kn_ne eh6 (kn_ne eh3 yK (by decide)) (by decide)) (by decide)) ?_
  refine N_putI fp_Land_37 sk_35 rfl d_Land_copyFrom_29 (fun h12 eh12 => ?_)
  have hI13 : Inv h12 := inv_full hI10 eh12 rfl
  have f14 : fr S_Land_copyX_2_0 h h12 := fr_put f11 eh12 rfl
  refine V_aload_n 1 d_Land_copyFrom_32 rfl rfl ?_
  refine V_getR fa_Land_9 sk_1 rfl d_Land_copyFrom_33 ?_
  refine V_iconst 0 d_Land_copyFrom_36 (by decide) ?_
  refine V_aload_n 0 d_Land_copyFrom_37 rfl rfl ?_
  refine V_getR fa_Land_9 sk_35 rfl d_Land_copyFrom_38 ?_
  refine V_iconst 0 d_Land_copyFrom_41 (by decide) ?_
  refine V_bipush 16 d_Land_copyFrom_42 (by decide) ?_
  refine N_acopy sk_2 sk_36 tc_0 tc_0 tc_16 (by (first | decide +kernel | omega)) wa_Land_46 wA1 wA2 wA3 d_Land_copyFrom_44 (by decide) (Nat.le_of_ble_eq_true rfl) (fun h15 eh15 => ?_)
  have hI16 : Inv h15 := inv_cpy (n := 16) hI13 eh15 (fun _ => rfl)
  have f17 : fr S_Land_copyX_2_0 h h15 := fr_row f14 eh15 (fun _ => rfl)
  have C18 : rcp h h15 36 2 16 := rcp_now f14 (fun _ => rfl) eh15
  refine V_aload_n 1 d_Land_copyFrom_47 rfl rfl ?_
  refine V_getR fa_Land_15 sk_1 rfl d_Land_copyFrom_48 ?_
  refine V_iconst 0 d_Land_copyFrom_51 (by decide) ?_
  refine V_aload_n 0 d_Land_copyFrom_52 rfl rfl ?_
  refine V_getR fa_Land_15 sk_35 rfl d_Land_copyFrom_53 ?_
  refine V_iconst 0 d_Land_copyFrom_56 (by decide) ?_
  refine V_bipush 16 d_Land_copyFrom_57 (by decide) ?_
  refine N_acopy sk_3 sk_37 tc_0 tc_0 tc_16 (by (first | decide +kernel | omega)) wa_Land_46 wA1 wA2 wA3 d_Land_copyFrom_59 (by decide) (Nat.le_of_ble_eq_true rfl) (fun h19 eh19 => ?_)
  have hI20 : Inv h19 := inv_cpy (n := 16) hI16 eh19 (fun _ => rfl)
  have f21 : fr S_Land_copyX_2_0 h h19 := fr_row f17 eh19 (fun _ => rfl)
  have C22 : rcp h h19 36 2 16 := rcp_row C18 eh19 (by decide)
  have C23 : rcp h h19 37 3 16 := rcp_now f17 (fun _ => rfl) eh19
  refine V_aload_n 1 d_Land_copyFrom_62 rfl rfl ?_
  refine V_getR fa_Land_18 sk_1 rfl d_Land_copyFrom_63 ?_
  refine V_iconst 0 d_Land_copyFrom_66 (by decide) ?_
  refine V_aload_n 0 d_Land_copyFrom_67 rfl rfl ?_
  refine V_getR fa_Land_18 sk_35 rfl d_Land_copyFrom_68 ?_
  refine V_iconst 0 d_Land_copyFrom_71 (by decide) ?_
  refine V_bipush 16 d_Land_copyFrom_72 (by decide) ?_
  refine N_acopy sk_4 sk_38 tc_0 tc_0 tc_16 (by (first | decide +kernel | omega)) wa_Land_46 wA1 wA2 wA3 d_Land_copyFrom_74 (by decide) (Nat.le_of_ble_eq_true rfl) (fun h24 eh24 => ?_)
  have hI25 : Inv h24 := inv_cpy (n := 16) hI20 eh24 (fun _ => rfl)
  have f26 : fr S_Land_copyX_2_0 h h24 := fr_row f21 eh24 (fun _ => rfl)
  have C27 : rcp h h24 36 2 16 := rcp_row C22 eh24 (by decide)
  have C28 : rcp h h24 37 3 16 := rcp_row C23 eh24 (by decide)
  have C29 : rcp h h24 38 4 16 := rcp_now f21 (fun _ => rfl) eh24
  refine V_aload_n 1 d_Land_copyFrom_77 rfl rfl ?_
  refine V_getR fa_Land_21 sk_1 rfl d_Land_copyFrom_78 ?_
  refine V_iconst 0 d_Land_copyFrom_81 (by decide) ?_
  refine V_aload_n 0 d_Land_copyFrom_82 rfl rfl ?_
  refine V_getR fa_Land_21 sk_35 rfl d_Land_copyFrom_83 ?_
  refine V_iconst 0 d_Land_copyFrom_86 (by decide) ?_
  refine V_bipush 16 d_Land_copyFrom_87 (by decide) ?_
  refine N_acopy sk_5 sk_39 tc_0 tc_0 tc_16 (by (first | decide +kernel | omega)) wa_Land_46 wA1 wA2 wA3 d_Land_copyFrom_89 (by decide) (Nat.le_of_ble_eq_true rfl) (fun h30 eh30 => ?_)
  have hI31 : Inv h30 := inv_cpy (n := 16) hI25 eh30 (fun _ => rfl)
  have f32 : fr S_Land_copyX_2_0 h h30 := fr_row f26 eh30 (fun _ => rfl)
  have C33 : rcp h h30 36 2 16 := rcp_row C27 eh30 (by decide)
  have C34 : rcp h h30 37 3 16 := rcp_row C28 eh30 (by decide)
  have C35 : rcp h h30 38 4 16 := rcp_row C29 eh30 (by decide)
  have C36 : rcp h h30 39 5 16 := rcp_now f26 (fun _ => rfl) eh30
  refine V_aload_n 1 d_Land_copyFrom_92 rfl rfl ?_
  refine V_getR fa_Land_24 sk_1 rfl d_Land_copyFrom_93 ?_
  refine V_iconst 0 d_Land_copyFrom_96 (by decide) ?_
  refine V_aload_n 0 d_Land_copyFrom_97 rfl rfl ?_
  refine V_getR fa_Land_24 sk_35 rfl d_Land_copyFrom_98 ?_
  refine V_iconst 0 d_Land_copyFrom_101 (by decide) ?_
  refine V_bipush 16 d_Land_copyFrom_102 (by decide) ?_
  refine N_acopy sk_6 sk_40 tc_0 tc_0 tc_16 (by (first | decide +kernel | omega)) wa_Land_46 wA1 wA2 wA3 d_Land_copyFrom_104 (by decide) (Nat.le_of_ble_eq_true rfl) (fun h37 eh37 => ?_)
  have hI38 : Inv h37 := inv_cpy (n := 16) hI31 eh37 (fun _ => rfl)
  have f39 : fr S_Land_copyX_2_0 h h37 := fr_row f32 eh37 (fun _ => rfl)
  have C40 : rcp h h37 36 2 16 := rcp_row C33 eh37 (by decide)
  have C41 : rcp h h37 37 3 16 := rcp_row C34 eh37 (by decide)
  have C42 : rcp h h37 38 4 16 := rcp_row C35 eh37 (by decide)
  have C43 : rcp h h37 39 5 16 := rcp_row C36 eh37 (by decide)
  have C44 : rcp h h37 40 6 16 := rcp_now f32 (fun _ => rfl) eh37
  exact V_vret rfl d_Land_copyFrom_107 ⟨rfl, ⟨hI38, f39, ⟨((kn_row eh37 (kn_row eh30 (kn_row eh24 (kn_row eh19 (kn_row eh15 (kn_nei eh12 (kn_nei eh9 (kn_nei eh6 (kn_put eh3) (by decide)) (by decide)) (by decide)) (by decide)) (by decide)) (by decide)) (by decide)) (by decide)).trans wK.symm), ((kn_row eh37 (kn_row eh30 (kn_row eh24 (kn_row eh19 (kn_row eh15 (kn_nei eh12 (kn_nei eh9 (kn_put eh6) (by decide)) (by decide)) (by decide)) (by decide)) (by decide)) (by decide)) (by decide)).trans gK.symm), ((kn_row eh37 (kn_row eh30 (kn_row eh24 (kn_row eh19 (kn_row eh15 (kn_nei eh12 (kn_put eh9) (by decide)) (by decide)) (by decide)) (by decide)) (by decide)) (by decide)).trans xK.symm), ((kn_row eh37 (kn_row eh30 (kn_row eh24 (kn_row eh19 (kn_row eh15 (kn_put eh12) (by decide)) (by decide)) (by decide)) (by decide)) (by decide)).trans yK.symm), C40, C41, C42, C43, C44⟩⟩⟩
def S_Ledger_copyX_2_0 : List (Nat × Option Nat) := [(41, some 4), (42, none), (43, none), (44, none), (45, none)]
abbrev q_Ledger_copyX_2_0 (h : Hp) (t : Int32) (tZ : Int) : Option Value → Hp → Prop := pVd (fun h' => Inv h' ∧ fr S_Ledger_copyX_2_0 h h' ∧ (h'.1 41 4 = h.1 7 4 ∧ rcp h h' 42 8 4 ∧ rcp h h' 43 9 8 ∧ rcp h h' 44 10 8 ∧ rcp h h' 45 11 8))
set_option maxRecDepth 100000 in
theorem c_Ledger_copyX_2_0 (h : Hp) (hI : Inv h) (t : Int32) (tZ : Int) (tE : t.toInt = tZ) (tK : h.1 7 4 = t) : Ct y_Ledger_copyFrom b_Ledger_copyFrom 2 none 1 60 [.ref 41, .ref 7] h (q_Ledger_copyX_2_0 h t tZ) := by
  refine ct_ow R_Ledger [some (.ref 41), some (.ref 7)] rfl (by decide) rfl (Nat.le_of_ble_eq_true rfl) ?_
  have f0 : fr S_Ledger_copyX_2_0 h h := fr_rf
  have g1 : 0 ≤ tZ ∧ tZ ≤ 8 := inv_at hI tE tK.symm rfl
  refine V_aload_n 1 d_Ledger_copyFrom_0 rfl rfl ?_
  refine V_getR fa_Ledger_9 sk_7 rfl d_Ledger_copyFrom_1 ?_
  refine V_iconst 0 d_Ledger_copyFrom_4 (by decide) ?_
  refine V_aload_n 0 d_Ledger_copyFrom_5 rfl rfl ?_
  refine V_getR fa_Ledger_9 sk_41 rfl d_Ledger_copyFrom_6 ?_
  refine V_iconst 0 d_Ledger_copyFrom_9 (by decide) ?_
  refine V_iconst 4 d_Ledger_copyFrom_10 (by decide) ?_
  refine N_acopy sk_8 sk_42 tc_0 tc_0 tc_4 (by (first | decide +kernel | omega)) wa_Ledger_34 wA1 wA2 wA3 d_Ledger_copyFrom_11 (by decide) (Nat.le_of_ble_eq_true rfl) (fun h2 eh2 => ?_)
  have hI3 : Inv h2 := inv_cpy (n := 4) hI eh2 (fun _ => rfl)
  have f4 : fr S_Ledger_copyX_2_0 h h2 := fr_row f0 eh2 (fun _ => rfl)
  have C5 : rcp h h2 42 8 4 := rcp_now f0 (fun _ => rfl) eh2
  refine V_aload_n 1 d_Ledger_copyFrom_14 rfl rfl ?_
  refine V_getR fa_Ledger_15 sk_7 rfl d_Ledger_copyFrom_15 ?_
  refine V_iconst 0 d_Ledger_copyFrom_18 (by decide) ?_
  refine V_aload_n 0 d_Ledger_copyFrom_19 rfl rfl ?_
  refine V_getR fa_Ledger_15 sk_41 rfl d_Ledger_copyFrom_20 ?_
  refine V_iconst 0 d_Ledger_copyFrom_23 (by decide) ?_
  refine V_bipush 8 d_Ledger_copyFrom_24 (by decide) ?_
  refine N_acopy sk_9 sk_43 tc_0 tc_0 tc_8 (by (first | decide +kernel | omega)) wa_Ledger_34 wA1 wA2 wA3 d_Ledger_copyFrom_26 (by decide) (Nat.le_of_ble_eq_true rfl) (fun h6 eh6 => ?_)
  have hI7 : Inv h6 := inv_cpy (n := 8) hI3 eh6 (fun _ => rfl)
  have f8 : fr S_Ledger_copyX_2_0 h h6 := fr_row f4 eh6 (fun _ => rfl)
  have C9 : rcp h h6 42 8 4 := rcp_row C5 eh6 (by decide)
  have C10 : rcp h h6 43 9 8 := rcp_now f4 (fun _ => rfl) eh6
  refine V_aload_n 1 d_Ledger_copyFrom_29 rfl rfl ?_
  refine V_getR fa_Ledger_18 sk_7 rfl d_Ledger_copyFrom_30 ?_
  refine V_iconst 0 d_Ledger_copyFrom_33 (by decide) ?_
  refine V_aload_n 0 d_Ledger_copyFrom_34 rfl rfl ?_
  refine V_getR fa_Ledger_18 sk_41 rfl d_Ledger_copyFrom_35 ?_
  refine V_iconst 0 d_Ledger_copyFrom_38 (by decide) ?_
  refine V_bipush 8 d_Ledger_copyFrom_39 (by decide) ?_
  refine N_acopy sk_10 sk_44 tc_0 tc_0 tc_8 (by (first | decide +kernel | omega)) wa_Ledger_34 wA1 wA2 wA3 d_Ledger_copyFrom_41 (by decide) (Nat.le_of_ble_eq_true rfl) (fun h11 eh11 => ?_)
  have hI12 : Inv h11 := inv_cpy (n := 8) hI7 eh11 (fun _ => rfl)
  have f13 : fr S_Ledger_copyX_2_0 h h11 := fr_row f8 eh11 (fun _ => rfl)
  have C14 : rcp h h11 42 8 4 := rcp_row C9 eh11 (by decide)
  have C15 : rcp h h11 43 9 8 := rcp_row C10 eh11 (by decide)
  have C16 : rcp h h11 44 10 8 := rcp_now f8 (fun _ => rfl) eh11
  refine V_aload_n 1 d_Ledger_copyFrom_44 rfl rfl ?_
  refine V_getR fa_Ledger_21 sk_7 rfl d_Ledger_copyFrom_45 ?_
  refine V_iconst 0 d_Ledger_copyFrom_48 (by decide) ?_
  refine V_aload_n 0 d_Ledger_copyFrom_49 rfl rfl ?_
  refine V_getR fa_Ledger_21 sk_41 rfl d_Ledger_copyFrom_50 ?_
  refine V_iconst 0 d_Ledger_copyFrom_53 (by decide) ?_
  refine V_bipush 8 d_Ledger_copyFrom_54 (by decide) ?_
  refine N_acopy sk_11 sk_45 tc_0 tc_0 tc_8 (by (first | decide +kernel | omega)) wa_Ledger_34 wA1 wA2 wA3 d_Ledger_copyFrom_56 (by decide) (Nat.le_of_ble_eq_true rfl) (fun h17 eh17 => ?_)
  have hI18 : Inv h17 := inv_cpy (n := 8) hI12 eh17 (fun _ => rfl)
  have f19 : fr S_Ledger_copyX_2_0 h h17 := fr_row f13 eh17 (fun _ => rfl)
  have C20 : rcp h h17 42 8 4 := rcp_row C14 eh17 (by decide)
  have C21 : rcp h h17 43 9 8 := rcp_row C15 eh17 (by decide)
  have C22 : rcp h h17 44 10 8 := rcp_row C16 eh17 (by decide)
  have C23 : rcp h h17 45 11 8 := rcp_now f13 (fun _ => rfl) eh17
  refine V_aload_n 0 d_Ledger_copyFrom_59 rfl rfl ?_
  refine V_aload_n 1 d_Ledger_copyFrom_60 rfl rfl ?_
  refine N_getK fa_Ledger_30 sk_7 rfl d_Ledger_copyFrom_61 (kn_row eh17 (kn_row eh11 (kn_row eh6 (kn_row eh2 tK (by decide)) (by decide)) (by decide)) (by decide)) ?_
  refine N_putI fp_Ledger_30 sk_41 rfl d_Ledger_copyFrom_64 (fun h24 eh24 => ?_)
  have hI25 : Inv h24 := inv_put (lo := 0) (hi := 8) hI18 eh24 rfl tE (by (first | decide +kernel | omega))
  have f26 : fr S_Ledger_copyX_2_0 h h24 := fr_put f19 eh24 rfl
  have C27 : rcp h h24 42 8 4 := rcp_put C20 eh24 (by decide)
  have C28 : rcp h h24 43 9 8 := rcp_put C21 eh24 (by decide)
  have C29 : rcp h h24 44 10 8 := rcp_put C22 eh24 (by decide)
  have C30 : rcp h h24 45 11 8 := rcp_put C23 eh24 (by decide)
  exact V_vret rfl d_Ledger_copyFrom_67 ⟨rfl, ⟨hI25, f26, ⟨((kn_put eh24).trans tK.symm), C27, C28, C29, C30⟩⟩⟩
def S_Sights_copyX_2_0 : List (Nat × Option Nat) := [(46, some 4), (47, none), (48, none), (49, none), (50, none)]
abbrev q_Sights_copyX_2_0 (h : Hp) (t : Int32) (tZ : Int) : Option Value → Hp → Prop := pVd (fun h' => Inv h' ∧ fr S_Sights_copyX_2_0 h h' ∧ (h'.1 46 4 = h.1 12 4 ∧ rcp h h' 47 13 8 ∧ rcp h h' 48 14 8 ∧ rcp h h' 49 15 8 ∧ rcp h h' 50 16 8))
set_option maxRecDepth 100000 in
theorem c_Sights_copyX_2_0 (h : Hp) (hI : Inv h) (t : Int32) (tZ : Int) (tE : t.toInt = tZ) (tK : h.1 12 4 = t) : Ct y_Sights_copyFrom b_Sights_copyFrom 2 none 1 60 [.ref 46, .ref 12] h (q_Sights_copyX_2_0 h t tZ) := by
  refine ct_ow R_Sights [some (.ref 46), some (.ref 12)] rfl (by decide) rfl (Nat.le_of_ble_eq_true rfl) ?_
  have f0 : fr S_Sights_copyX_2_0 h h := fr_rf
  have g1 : 0 ≤ tZ ∧ tZ ≤ 8 := inv_at hI tE tK.symm rfl
  refine V_aload_n 1 d_Sights_copyFrom_0 rfl rfl ?_
  refine V_getR fa_Sights_9 sk_12 rfl d_Sights_copyFrom_1 ?_
  refine V_iconst 0 d_Sights_copyFrom_4 (by decide) ?_
  refine V_aload_n 0 d_Sights_copyFrom_5 rfl rfl ?_
  refine V_getR fa_Sights_9 sk_46 rfl d_Sights_copyFrom_6 ?_
  refine V_iconst 0 d_Sights_copyFrom_9 (by decide) ?_
  refine V_bipush 8 d_Sights_copyFrom_10 (by decide) ?_
  refine N_acopy sk_13 sk_47 tc_0 tc_0 tc_8 (by (first | decide +kernel | omega)) wa_Sights_24 wA1 wA2 wA3 d_Sights_copyFrom_12 (by decide) (Nat.le_of_ble_eq_true rfl) (fun h2 eh2 => ?_)
  have hI3 : Inv h2 := inv_cpy (n := 8) hI eh2 (fun _ => rfl)
  have f4 : fr S_Sights_copyX_2_0 h h2 := fr_row f0 eh2 (fun _ => rfl)
  have C5 : rcp h h2 47 13 8 := rcp_now f0 (fun _ => rfl) eh2
  refine V_aload_n 1 d_Sights_copyFrom_15 rfl rfl ?_
  refine V_getR fa_Sights_15 sk_12 rfl d_Sights_copyFrom_16 ?_
  refine V_iconst 0 d_Sights_copyFrom_19 (by decide) ?_
  refine V_aload_n 0 d_Sights_copyFrom_20 rfl rfl ?_
  refine V_getR fa_Sights_15 sk_46 rfl d_Sights_copyFrom_21 ?_
  refine V_iconst 0 d_Sights_copyFrom_24 (by decide) ?_
  refine V_bipush 8 d_Sights_copyFrom_25 (by decide) ?_
  refine N_acopy sk_14 sk_48 tc_0 tc_0 tc_8 (by (first | decide +kernel | omega)) wa_Sights_24 wA1 wA2 wA3 d_Sights_copyFrom_27 (by decide) (Nat.le_of_ble_eq_true rfl) (fun h6 eh6 => ?_)
  have hI7 : Inv h6 := inv_cpy (n := 8) hI3 eh6 (fun _ => rfl)
  have f8 : fr S_Sights_copyX_2_0 h h6 := fr_row f4 eh6 (fun _ => rfl)
  have C9 : rcp h h6 47 13 8 := rcp_row C5 eh6 (by decide)
  have C10 : rcp h h6 48 14 8 := rcp_now f4 (fun _ => rfl) eh6
  refine V_aload_n 1 d_Sights_copyFrom_30 rfl rfl ?_
  refine V_getR fa_Sights_18 sk_12 rfl d_Sights_copyFrom_31 ?_
  refine V_iconst 0 d_Sights_copyFrom_34 (by decide) ?_
  refine V_aload_n 0 d_Sights_copyFrom_35 rfl rfl ?_
  refine V_getR fa_Sights_18 sk_46 rfl d_Sights_copyFrom_36 ?_
  refine V_iconst 0 d_Sights_copyFrom_39 (by decide) ?_
  refine V_bipush 8 d_Sights_copyFrom_40 (by decide) ?_
  refine N_acopy sk_15 sk_49 tc_0 tc_0 tc_8 (by (first | decide +kernel | omega)) wa_Sights_24 wA1 wA2 wA3 d_Sights_copyFrom_42 (by decide) (Nat.le_of_ble_eq_true rfl) (fun h11 eh11 => ?_)
  have hI12 : Inv h11 := inv_cpy (n := 8) hI7 eh11 (fun _ => rfl)
  have f13 : fr S_Sights_copyX_2_0 h h11 := fr_row f8 eh11 (fun _ => rfl)
  have C14 : rcp h h11 47 13 8 := rcp_row C9 eh11 (by decide)
  have C15 : rcp h h11 48 14 8 := rcp_row C10 eh11 (by decide)
  have C16 : rcp h h11 49 15 8 := rcp_now f8 (fun _ => rfl) eh11
  refine V_aload_n 1 d_Sights_copyFrom_45 rfl rfl ?_
  refine V_getR fa_Sights_21 sk_12 rfl d_Sights_copyFrom_46 ?_
  refine V_iconst 0 d_Sights_copyFrom_49 (by decide) ?_
  refine V_aload_n 0 d_Sights_copyFrom_50 rfl rfl ?_
  refine V_getR fa_Sights_21 sk_46 rfl d_Sights_copyFrom_51 ?_
  refine V_iconst 0 d_Sights_copyFrom_54 (by decide) ?_
  refine V_bipush 8 d_Sights_copyFrom_55 (by decide) ?_
  refine N_acopy sk_16 sk_50 tc_0 tc_0 tc_8 (by (first | decide +kernel | omega)) wa_Sights_24 wA1 wA2 wA3 d_Sights_copyFrom_57 (by decide) (Nat.le_of_ble_eq_true rfl) (fun h17 eh17 => ?_)
  have hI18 : Inv h17 := inv_cpy (n := 8) hI12 eh17 (fun _ => rfl)
  have f19 : fr S_Sights_copyX_2_0 h h17 := fr_row f13 eh17 (fun _ => rfl)
  have C20 : rcp h h17 47 13 8 := rcp_row C14 eh17 (by decide)
  have C21 : rcp h h17 48 14 8 := rcp_row C15 eh17 (by decide)
  have C22 : rcp h h17 49 15 8 := rcp_row C16 eh17 (by decide)
  have C23 : rcp h h17 50 16 8 := rcp_now f13 (fun _ => rfl) eh17
  refine V_aload_n 0 d_Sights_copyFrom_60 rfl rfl ?_
  refine V_aload_n 1 d_Sights_copyFrom_61 rfl rfl ?_
  refine N_getK fa_Sights_30 sk_12 rfl d_Sights_copyFrom_62 (kn_row eh17 (kn_row eh11 (kn_row eh6 (kn_row eh2 tK (by decide)) (by decide)) (by decide)) (by decide)) ?_
  refine N_putI fp_Sights_30 sk_46 rfl d_Sights_copyFrom_65 (fun h24 eh24 => ?_)
  have hI25 : Inv h24 := inv_put (lo := 0) (hi := 8) hI18 eh24 rfl tE (by (first | decide +kernel | omega))
  have f26 : fr S_Sights_copyX_2_0 h h24 := fr_put f19 eh24 rfl
  have C27 : rcp h h24 47 13 8 := rcp_put C20 eh24 (by decide)
  have C28 : rcp h h24 48 14 8 := rcp_put C21 eh24 (by decide)
  have C29 : rcp h h24 49 15 8 := rcp_put C22 eh24 (by decide)
  have C30 : rcp h h24 50 16 8 := rcp_put C23 eh24 (by decide)
  exact V_vret rfl d_Sights_copyFrom_68 ⟨rfl, ⟨hI25, f26, ⟨((kn_put eh24).trans tK.symm), C27, C28, C29, C30⟩⟩⟩
def S_County_copyX_2_0 : List (Nat × Option Nat) := [(34, some 3), (34, some 4), (35, none), (36, none), (37, none), (38, none), (39, none), (40, none), (41, some 4), (42, none), (43, none), (44, none), (45, none), (46, some 4), (47, none), (48, none), (49, none), (50, none)]
abbrev q_County_copyX_2_0 (h : Hp) (n : Int32) (nZ : Int) (m : Int32) (mZ : Int) : Option Value → Hp → Prop := pVd (fun h' => Inv h' ∧ fr S_County_copyX_2_0 h h' ∧ (cpy h h' 34 0))
set_option maxRecDepth 100000 in
theorem c_County_copyX_2_0 (h : Hp) (hI : Inv h) (n : Int32) (nZ : Int) (nE : n.toInt = nZ) (nK : h.1 0 3 = n) (m : Int32) (mZ : Int) (mE : m.toInt = mZ) (mK : h.1 0 4 = m) : Ct y_County_copyFrom b_County_copyFrom 2 none 2 81 [.ref 34, .ref 0] h (q_County_copyX_2_0 h n nZ m mZ) := by
  refine ct_ow R_County [some (.ref 34), some (.ref 0)] rfl (by decide) rfl (Nat.le_of_ble_eq_true rfl) ?_
  have f0 : fr S_County_copyX_2_0 h h := fr_rf
  refine V_aload_n 0 d_County_copyFrom_0 rfl rfl ?_
  refine V_getR fa_County_12 sk_34 rfl d_County_copyFrom_1 ?_
  refine V_aload_n 1 d_County_copyFrom_4 rfl rfl ?_
  refine V_getR fa_County_12 sk_0 rfl d_County_copyFrom_5 ?_
  obtain ⟨z1, z1Z, z1E, z1e⟩ : ∃ (y : Int32) (Y : Int), y.toInt = Y ∧ y = h.1 1 0 := ⟨_, _, rfl, rfl⟩
  have g2 : 2 ≤ z1Z ∧ z1Z ≤ 4 := inv_at hI z1E z1e rfl
  obtain ⟨z3, z3Z, z3E, z3e⟩ : ∃ (y : Int32) (Y : Int), y.toInt = Y ∧ y = h.1 1 1 := ⟨_, _, rfl, rfl⟩
  have g4 : 2 ≤ z3Z ∧ z3Z ≤ 4 := inv_at hI z3E z3e rfl
  obtain ⟨z5, z5Z, z5E, z5e⟩ : ∃ (y : Int32) (Y : Int), y.toInt = Y ∧ y = h.1 1 2 := ⟨_, _, rfl, rfl⟩
  obtain ⟨z6, z6Z, z6E, z6e⟩ : ∃ (y : Int32) (Y : Int), y.toInt = Y ∧ y = h.1 1 3 := ⟨_, _, rfl, rfl⟩
  refine N_callVV [.ref 1] [] cv_County_47 sk_35 rfl d_County_copyFrom_8 rfl (Nat.le_of_ble_eq_true rfl) (by decide) (by decide) (c_Land_copyX_2_0 h hI z1 z1Z z1E z1e.symm z3 z3Z z3E z3e.symm z5 z5Z z5E z5e.symm z6 z6Z z6E z6e.symm) (fun h8 p9 => ?_)
  obtain ⟨hI10, fh8, p9⟩ := p9
  have f11 : fr S_County_copyX_2_0 h h8 := fr_call f0 fh8 rfl
  have qL := p9
  refine V_aload_n 0 d_County_copyFrom_11 rfl rfl ?_
  refine V_getR fa_County_21 sk_34 rfl d_County_copyFrom_12 ?_
  refine V_aload_n 1 d_County_copyFrom_15 rfl rfl ?_
  refine V_getR fa_County_21 sk_0 rfl d_County_copyFrom_16 ?_
  obtain ⟨z12, z12Z, z12E, z12e⟩ : ∃ (y : Int32) (Y : Int), y.toInt = Y ∧ y = h8.1 7 4 := ⟨_, _, rfl, rfl⟩
  have g13 : 0 ≤ z12Z ∧ z12Z ≤ 8 := inv_at hI10 z12E z12e rfl
  refine N_callVV [.ref 7] [] cv_County_51 sk_41 rfl d_County_copyFrom_19 rfl (Nat.le_of_ble_eq_true rfl) (by decide) (by decide) (c_Ledger_copyX_2_0 h8 hI10 z12 z12Z z12E z12e.symm) (fun h15 p16 => ?_)
  obtain ⟨hI17, fh15, p16⟩ := p16
  have f18 : fr S_County_copyX_2_0 h h15 := fr_call f11 fh15 rfl
  have qG := p16
  refine V_aload_n 0 d_County_copyFrom_22 rfl rfl ?_
  refine V_getR fa_County_28 sk_34 rfl d_County_copyFrom_23 ?_
  refine V_aload_n 1 d_County_copyFrom_26 rfl rfl ?_
  refine V_getR fa_County_28 sk_0 rfl d_County_copyFrom_27 ?_
  obtain ⟨z19, z19Z, z19E, z19e⟩ : ∃ (y : Int32) (Y : Int), y.toInt = Y ∧ y = h15.1 12 4 := ⟨_, _, rfl, rfl⟩
  have g20 : 0 ≤ z19Z ∧ z19Z ≤ 8 := inv_at hI17 z19E z19e rfl
  refine N_callVV [.ref 12] [] cv_County_54 sk_46 rfl d_County_copyFrom_30 rfl (Nat.le_of_ble_eq_true rfl) (by decide) (by decide) (c_Sights_copyX_2_0 h15 hI17 z19 z19Z z19E z19e.symm) (fun h22 p23 => ?_)
  obtain ⟨hI24, fh22, p23⟩ := p23
  have f25 : fr S_County_copyX_2_0 h h22 := fr_call f18 fh22 rfl
  have qS := p23
  refine V_aload_n 0 d_County_copyFrom_33 rfl rfl ?_
  refine V_aload_n 1 d_County_copyFrom_34 rfl rfl ?_
  refine N_getK fa_County_41 sk_0 rfl d_County_copyFrom_35 (kn_call fh22 (kn_call fh15 (kn_call fh8 nK rfl) rfl) rfl) ?_
  refine N_putI fp_County_41 sk_34 rfl d_County_copyFrom_38 (fun h26 eh26 => ?_)
  have hI27 : Inv h26 := inv_full hI24 eh26 rfl
  have f28 : fr S_County_copyX_2_0 h h26 := fr_put f25 eh26 rfl
  refine V_aload_n 0 d_County_copyFrom_41 rfl rfl ?_
  refine V_aload_n 1 d_County_copyFrom_42 rfl rfl ?_
  refine N_getK fa_County_44 sk_0 rfl d_County_copyFrom_43 (kn_ne eh26 (kn_call fh22 (kn_call fh15 (kn_call fh8 mK rfl) rfl) rfl) (by decide)) ?_
  refine N_putI fp_County_44 sk_34 rfl d_County_copyFrom_46 (fun h29 eh29 => ?_)
  have hI30 : Inv h29 := inv_full hI27 eh29 rfl
  have f31 : fr S_County_copyX_2_0 h h29 := fr_put f28 eh29 rfl
  exact V_vret rfl d_County_copyFrom_49 ⟨rfl, ⟨hI30, f31, (cpy_of (a := 34) (b := 0) qL fh15 qG fh22 qS fh8 eh26 eh29 nK mK rfl rfl rfl rfl)⟩⟩
def S_Land_copyX_3_0 : List (Nat × Option Nat) := [(52, none), (53, none), (54, none), (55, none), (56, none), (57, none)]
abbrev q_Land_copyX_3_0 (h : Hp) (w : Int32) (wZ : Int) (g : Int32) (gZ : Int) (x : Int32) (xZ : Int) (y : Int32) (yZ : Int) : Option Value → Hp → Prop := pVd (fun h' => Inv h' ∧ fr S_Land_copyX_3_0 h h' ∧ (h'.1 52 0 = h.1 1 0 ∧ h'.1 52 1 = h.1 1 1 ∧ h'.1 52 2 = h.1 1 2 ∧ h'.1 52 3 = h.1 1 3 ∧ rcp h h' 53 2 16 ∧ rcp h h' 54 3 16 ∧ rcp h h' 55 4 16 ∧ rcp h h' 56 5 16 ∧ rcp h h' 57 6 16))
set_option maxRecDepth 100000 in
theorem c_Land_copyX_3_0 (h : Hp) (hI : Inv h) (w : Int32) (wZ : Int) (wE : w.toInt = wZ) (wK : h.1 1 0 = w) (g : Int32) (gZ : Int) (gE : g.toInt = gZ) (gK : h.1 1 1 = g) (x : Int32) (xZ : Int) (xE : x.toInt = xZ) (xK : h.1 1 2 = x) (y : Int32) (yZ : Int) (yE : y.toInt = yZ) (yK : h.1 1 3 = y) : Ct y_Land_copyFrom b_Land_copyFrom 2 none 1 60 [.ref 52, .ref 1] h (q_Land_copyX_3_0 h w wZ g gZ x xZ y yZ) := by
  refine ct_ow R_Land [some (.ref 52), some (.ref 1)] rfl (by decide) rfl (Nat.le_of_ble_eq_true rfl) ?_
  have f0 : fr S_Land_copyX_3_0 h h := fr_rf
  have g1 : 2 ≤ wZ ∧ wZ ≤ 4 := inv_at hI wE wK.symm rfl
  have g2 : 2 ≤ gZ ∧ gZ ≤ 4 := inv_at hI gE gK.symm rfl
  refine V_aload_n 0 d_Land_copyFrom_0 rfl rfl ?_
  refine V_aload_n 1 d_Land_copyFrom_1 rfl rfl ?_
  refine N_getK fa_Land_27 sk_1 rfl d_Land_copyFrom_2 wK ?_
  refine N_putI fp_Land_27 sk_52 rfl d_Land_copyFrom_5 (fun h3 eh3 => ?_)
  have hI4 : Inv h3 := inv_put (lo := 2) (hi := 4) hI eh3 rfl wE (by (first | decide +kernel | omega))
  have f5 : fr S_Land_copyX_3_0 h h3 := fr_put f0 eh3 rfl
  refine V_aload_n 0 d_Land_copyFrom_8 rfl rfl ?_
  refine V_aload_n 1 d_Land_copyFrom_9 rfl rfl ?_
  refine N_getK fa_Land_31 sk_1 rfl d_Land_copyFrom_10 (kn_ne eh3 gK (by decide)) ?_
  refine N_putI fp_Land_31 sk_52 rfl d_Land_copyFrom_13 (fun h6 eh6 => ?_)
  have hI7 : Inv h6 := inv_put (lo := 2) (hi := 4) hI4 eh6 rfl gE (by (first | decide +kernel | omega))
  have f8 : fr S_Land_copyX_3_0 h h6 := fr_put f5 eh6 rfl
  refine V_aload_n 0 d_Land_copyFrom_16 rfl rfl ?_
  refine V_aload_n 1 d_Land_copyFrom_17 rfl rfl ?_
  refine N_getK fa_Land_34 sk_1 rfl d_Land_copyFrom_18 (kn_ne eh6 (kn_ne eh3 xK (by decide)) (by decide)) ?_
  refine N_putI fp_Land_34 sk_52 rfl d_Land_copyFrom_21 (fun h9 eh9 => ?_)
  have hI10 : Inv h9 := inv_full hI7 eh9 rfl
  have f11 : fr S_Land_copyX_3_0 h h9 := fr_put f8 eh9 rfl
  refine V_aload_n 0 d_Land_copyFrom_24 rfl rfl ?_
  refine V_aload_n 1 d_Land_copyFrom_25 rfl rfl ?_
  refine N_getK fa_Land_37 sk_1 rfl d_Land_copyFrom_26 (kn_ne eh9 (kn_ne eh6 (kn_ne eh3 yK (by decide)) (by decide)) (by decide)) ?_
  refine N_putI fp_Land_37 sk_52 rfl d_Land_copyFrom_29 (fun h12 eh12 => ?_)
  have hI13 : Inv h12 := inv_full hI10 eh12 rfl
  have f14 : fr S_Land_copyX_3_0 h h12 := fr_put f11 eh12 rfl
  refine V_aload_n 1 d_Land_copyFrom_32 rfl rfl ?_
  refine V_getR fa_Land_9 sk_1 rfl d_Land_copyFrom_33 ?_
  refine V_iconst 0 d_Land_copyFrom_36 (by decide) ?_
  refine V_aload_n 0 d_Land_copyFrom_37 rfl rfl ?_
  refine V_getR fa_Land_9 sk_52 rfl d_Land_copyFrom_38 ?_
  refine V_iconst 0 d_Land_copyFrom_41 (by decide) ?_
  refine V_bipush 16 d_Land_copyFrom_42 (by decide) ?_
  refine N_acopy sk_2 sk_53 tc_0 tc_0 tc_16 (by (first | decide +kernel | omega)) wa_Land_46 wA1 wA2 wA3 d_Land_copyFrom_44 (by decide) (Nat.le_of_ble_eq_true rfl) (fun h15 eh15 => ?_)
  have hI16 : Inv h15 := inv_cpy (n := 16) hI13 eh15 (fun _ => rfl)
  have f17 : fr S_Land_copyX_3_0 h h15 := fr_row f14 eh15 (fun _ => rfl)
  have C18 : rcp h h15 53 2 16 := rcp_now f14 (fun _ => rfl) eh15
  refine V_aload_n 1 d_Land_copyFrom_47 rfl rfl ?_
  refine V_getR fa_Land_15 sk_1 rfl d_Land_copyFrom_48 ?_
  refine V_iconst 0 d_Land_copyFrom_51 (by decide) ?_
  refine V_aload_n 0 d_Land_copyFrom_52 rfl rfl ?_
  refine V_getR fa_Land_15 sk_52 rfl d_Land_copyFrom_53 ?_
  refine V_iconst 0 d_Land_copyFrom_56 (by decide) ?_
  refine V_bipush 16 d_Land_copyFrom_57 (by decide) ?_
  refine N_acopy sk_3 sk_54 tc_0 tc_0 tc_16 (by (first | decide +kernel | omega)) wa_Land_46 wA1 wA2 wA3 d_Land_copyFrom_59 (by decide) (Nat.le_of_ble_eq_true rfl) (fun h19 eh19 => ?_)
  have hI20 : Inv h19 := inv_cpy (n := 16) hI16 eh19 (fun _ => rfl)
  have f21 : fr S_Land_copyX_3_0 h h19 := fr_row f17 eh19 (fun _ => rfl)
  have C22 : rcp h h19 53 2 16 := rcp_row C18 eh19 (by decide)
  have C23 : rcp h h19 54 3 16 := rcp_now f17 (fun _ => rfl) eh19
  refine V_aload_n 1 d_Land_copyFrom_62 rfl rfl ?_
  refine V_getR fa_Land_18 sk_1 rfl d_Land_copyFrom_63 ?_
  refine V_iconst 0 d_Land_copyFrom_66 (by decide) ?_
  refine V_aload_n 0 d_Land_copyFrom_67 rfl rfl ?_
  refine V_getR fa_Land_18 sk_52 rfl d_Land_copyFrom_68 ?_
  refine V_iconst 0 d_Land_copyFrom_71 (by decide) ?_
  refine V_bipush 16 d_Land_copyFrom_72 (by decide) ?_
  refine N_acopy sk_4 sk_55 tc_0 tc_0 tc_16 (by (first | decide +kernel | omega)) wa_Land_46 wA1 wA2 wA3 d_Land_copyFrom_74 (by decide) (Nat.le_of_ble_eq_true rfl) (fun h24 eh24 => ?_)
  have hI25 : Inv h24 := inv_cpy (n := 16) hI20 eh24 (fun _ => rfl)
  have f26 : fr S_Land_copyX_3_0 h h24 := fr_row f21 eh24 (fun _ => rfl)
  have C27 : rcp h h24 53 2 16 := rcp_row C22 eh24 (by decide)
  have C28 : rcp h h24 54 3 16 := rcp_row C23 eh24 (by decide)
  have C29 : rcp h h24 55 4 16 := rcp_now f21 (fun _ => rfl) eh24
  refine V_aload_n 1 d_Land_copyFrom_77 rfl rfl ?_
  refine V_getR fa_Land_21 sk_1 rfl d_Land_copyFrom_78 ?_
  refine V_iconst 0 d_Land_copyFrom_81 (by decide) ?_
  refine V_aload_n 0 d_Land_copyFrom_82 rfl rfl ?_
  refine V_getR fa_Land_21 sk_52 rfl d_Land_copyFrom_83 ?_
  refine V_iconst 0 d_Land_copyFrom_86 (by decide) ?_
  refine V_bipush 16 d_Land_copyFrom_87 (by decide) ?_
  refine N_acopy sk_5 sk_56 tc_0 tc_0 tc_16 (by (first | decide +kernel | omega)) wa_Land_46 wA1 wA2 wA3 d_Land_copyFrom_89 (by decide) (Nat.le_of_ble_eq_true rfl) (fun h30 eh30 => ?_)
  have hI31 : Inv h30 := inv_cpy (n := 16) hI25 eh30 (fun _ => rfl)
  have f32 : fr S_Land_copyX_3_0 h h30 := fr_row f26 eh30 (fun _ => rfl)
  have C33 : rcp h h30 53 2 16 := rcp_row C27 eh30 (by decide)
  have C34 : rcp h h30 54 3 16 := rcp_row C28 eh30 (by decide)
  have C35 : rcp h h30 55 4 16 := rcp_row C29 eh30 (by decide)
  have C36 : rcp h h30 56 5 16 := rcp_now f26 (fun _ => rfl) eh30
  refine V_aload_n 1 d_Land_copyFrom_92 rfl rfl ?_
  refine V_getR fa_Land_24 sk_1 rfl d_Land_copyFrom_93 ?_
  refine V_iconst 0 d_Land_copyFrom_96 (by decide) ?_
  refine V_aload_n 0 d_Land_copyFrom_97 rfl rfl ?_
  refine V_getR fa_Land_24 sk_52 rfl d_Land_copyFrom_98 ?_
  refine V_iconst 0 d_Land_copyFrom_101 (by decide) ?_
  refine V_bipush 16 d_Land_copyFrom_102 (by decide) ?_
  refine N_acopy sk_6 sk_57 tc_0 tc_0 tc_16 (by (first | decide +kernel | omega)) wa_Land_46 wA1 wA2 wA3 d_Land_copyFrom_104 (by decide) (Nat.le_of_ble_eq_true rfl) (fun h37 eh37 => ?_)
  have hI38 : Inv h37 := inv_cpy (n := 16) hI31 eh37 (fun _ => rfl)
  have f39 : fr S_Land_copyX_3_0 h h37 := fr_row f32 eh37 (fun _ => rfl)
  have C40 : rcp h h37 53 2 16 := rcp_row C33 eh37 (by decide)
  have C41 : rcp h h37 54 3 16 := rcp_row C34 eh37 (by decide)
  have C42 : rcp h h37 55 4 16 := rcp_row C35 eh37 (by decide)
  have C43 : rcp h h37 56 5 16 := rcp_row C36 eh37 (by decide)
  have C44 : rcp h h37 57 6 16 := rcp_now f32 (fun _ => rfl) eh37
  exact V_vret rfl d_Land_copyFrom_107 ⟨rfl, ⟨hI38, f39, ⟨((kn_row eh37 (kn_row eh30 (kn_row eh24 (kn_row eh19 (kn_row eh15 (kn_nei eh12 (kn_nei eh9 (kn_nei eh6 (kn_put eh3) (by decide)) (by decide)) (by decide)) (by decide)) (by decide)) (by decide)) (by decide)) (by decide)).trans wK.symm), ((kn_row eh37 (kn_row eh30 (kn_row eh24 (kn_row eh19 (kn_row eh15 (kn_nei eh12 (kn_nei eh9 (kn_put eh6) (by decide)) (by decide)) (by decide)) (by decide)) (by decide)) (by decide)) (by decide)).trans gK.symm), ((kn_row eh37 (kn_row eh30 (kn_row eh24 (kn_row eh19 (kn_row eh15 (kn_nei eh12 (kn_put eh9) (by decide)) (by decide)) (by decide)) (by decide)) (by decide)) (by decide)).trans xK.symm), ((kn_row eh37 (kn_row eh30 (kn_row eh24 (kn_row eh19 (kn_row eh15 (kn_put eh12) (by decide)) (by decide)) (by decide)) (by decide)) (by decide)).trans yK.symm), C40, C41, C42, C43, C44⟩⟩⟩
def S_Ledger_copyX_3_0 : List (Nat × Option Nat) := [(58, some 4), (59, none), (60, none), (61, none), (62, none)]
abbrev q_Ledger_copyX_3_0 (h : Hp) (t : Int32) (tZ : Int) : Option Value → Hp → Prop := pVd (fun h' => Inv h' ∧ fr S_Ledger_copyX_3_0 h h' ∧ (h'.1 58 4 = h.1 7 4 ∧ rcp h h' 59 8 4 ∧ rcp h h' 60 9 8 ∧ rcp h h' 61 10 8 ∧ rcp h h' 62 11 8))
set_option maxRecDepth 100000 in
theorem c_Ledger_copyX_3_0 (h : Hp) (hI : Inv h) (t : Int32) (tZ : Int) (tE : t.toInt = tZ) (tK : h.1 7 4 = t) : Ct y_Ledger_copyFrom b_Ledger_copyFrom 2 none 1 60 [.ref 58, .ref 7] h (q_Ledger_copyX_3_0 h t tZ) := by
  refine ct_ow R_Ledger [some (.ref 58), some (.ref 7)] rfl (by decide) rfl (Nat.le_of_ble_eq_true rfl) ?_
  have f0 : fr S_Ledger_copyX_3_0 h h := fr_rf
  have g1 : 0 ≤ tZ ∧ tZ ≤ 8 := inv_at hI tE tK.symm rfl
  refine V_aload_n 1 d_Ledger_copyFrom_0 rfl rfl ?_
  refine V_getR fa_Ledger_9 sk_7 rfl d_Ledger_copyFrom_1 ?_
  refine V_iconst 0 d_Ledger_copyFrom_4 (by decide) ?_
  refine V_aload_n 0 d_Ledger_copyFrom_5 rfl rfl ?_
  refine V_getR fa_Ledger_9 sk_58 rfl d_Ledger_copyFrom_6 ?_
  refine V_iconst 0 d_Ledger_copyFrom_9 (by decide) ?_
  refine V_iconst 4 d_Ledger_copyFrom_10 (by decide) ?_
  refine N_acopy sk_8 sk_59 tc_0 tc_0 tc_4 (by (first | decide +kernel | omega)) wa_Ledger_34 wA1 wA2 wA3 d_Ledger_copyFrom_11 (by decide) (Nat.le_of_ble_eq_true rfl) (fun h2 eh2 => ?_)
  have hI3 : Inv h2 := inv_cpy (n := 4) hI eh2 (fun _ => rfl)
  have f4 : fr S_Ledger_copyX_3_0 h h2 := fr_row f0 eh2 (fun _ => rfl)
  have C5 : rcp h h2 59 8 4 := rcp_now f0 (fun _ => rfl) eh2
  refine V_aload_n 1 d_Ledger_copyFrom_14 rfl rfl ?_
  refine V_getR fa_Ledger_15 sk_7 rfl d_Ledger_copyFrom_15 ?_
  refine V_iconst 0 d_Ledger_copyFrom_18 (by decide) ?_
  refine V_aload_n 0 d_Ledger_copyFrom_19 rfl rfl ?_
  refine V_getR fa_Ledger_15 sk_58 rfl d_Ledger_copyFrom_20 ?_
  refine V_iconst 0 d_Ledger_copyFrom_23 (by decide) ?_
  refine V_bipush 8 d_Ledger_copyFrom_24 (by decide) ?_
  refine N_acopy sk_9 sk_60 tc_0 tc_0 tc_8 (by (first | decide +kernel | omega)) wa_Ledger_34 wA1 wA2 wA3 d_Ledger_copyFrom_26 (by decide) (Nat.le_of_ble_eq_true rfl) (fun h6 eh6 => ?_)
  have hI7 : Inv h6 := inv_cpy (n := 8) hI3 eh6 (fun _ => rfl)
  have f8 : fr S_Ledger_copyX_3_0 h h6 := fr_row f4 eh6 (fun _ => rfl)
  have C9 : rcp h h6 59 8 4 := rcp_row C5 eh6 (by decide)
  have C10 : rcp h h6 60 9 8 := rcp_now f4 (fun _ => rfl) eh6
  refine V_aload_n 1 d_Ledger_copyFrom_29 rfl rfl ?_
  refine V_getR fa_Ledger_18 sk_7 rfl d_Ledger_copyFrom_30 ?_
  refine V_iconst 0 d_Ledger_copyFrom_33 (by decide) ?_
  refine V_aload_n 0 d_Ledger_copyFrom_34 rfl rfl ?_
  refine V_getR fa_Ledger_18 sk_58 rfl d_Ledger_copyFrom_35 ?_
  refine V_iconst 0 d_Ledger_copyFrom_38 (by decide) ?_
  refine V_bipush 8 d_Ledger_copyFrom_39 (by decide) ?_
  refine N_acopy sk_10 sk_61 tc_0 tc_0 tc_8 (by (first | decide +kernel | omega)) wa_Ledger_34 wA1 wA2 wA3 d_Ledger_copyFrom_41 (by decide) (Nat.le_of_ble_eq_true rfl) (fun h11 eh11 => ?_)
  have hI12 : Inv h11 := inv_cpy (n := 8) hI7 eh11 (fun _ => rfl)
  have f13 : fr S_Ledger_copyX_3_0 h h11 := fr_row f8 eh11 (fun _ => rfl)
  have C14 : rcp h h11 59 8 4 := rcp_row C9 eh11 (by decide)
  have C15 : rcp h h11 60 9 8 := rcp_row C10 eh11 (by decide)
  have C16 : rcp h h11 61 10 8 := rcp_now f8 (fun _ => rfl) eh11
  refine V_aload_n 1 d_Ledger_copyFrom_44 rfl rfl ?_
  refine V_getR fa_Ledger_21 sk_7 rfl d_Ledger_copyFrom_45 ?_
  refine V_iconst 0 d_Ledger_copyFrom_48 (by decide) ?_
  refine V_aload_n 0 d_Ledger_copyFrom_49 rfl rfl ?_
  refine V_getR fa_Ledger_21 sk_58 rfl d_Ledger_copyFrom_50 ?_
  refine V_iconst 0 d_Ledger_copyFrom_53 (by decide) ?_
  refine V_bipush 8 d_Ledger_copyFrom_54 (by decide) ?_
  refine N_acopy sk_11 sk_62 tc_0 tc_0 tc_8 (by (first | decide +kernel | omega)) wa_Ledger_34 wA1 wA2 wA3 d_Ledger_copyFrom_56 (by decide) (Nat.le_of_ble_eq_true rfl) (fun h17 eh17 => ?_)
  have hI18 : Inv h17 := inv_cpy (n := 8) hI12 eh17 (fun _ => rfl)
  have f19 : fr S_Ledger_copyX_3_0 h h17 := fr_row f13 eh17 (fun _ => rfl)
  have C20 : rcp h h17 59 8 4 := rcp_row C14 eh17 (by decide)
  have C21 : rcp h h17 60 9 8 := rcp_row C15 eh17 (by decide)
  have C22 : rcp h h17 61 10 8 := rcp_row C16 eh17 (by decide)
  have C23 : rcp h h17 62 11 8 := rcp_now f13 (fun _ => rfl) eh17
  refine V_aload_n 0 d_Ledger_copyFrom_59 rfl rfl ?_
  refine V_aload_n 1 d_Ledger_copyFrom_60 rfl rfl ?_
  refine N_getK fa_Ledger_30 sk_7 rfl d_Ledger_copyFrom_61 (kn_row eh17 (kn_row eh11 (kn_row eh6 (kn_row eh2 tK (by decide)) (by decide)) (by decide)) (by decide)) ?_
  refine N_putI fp_Ledger_30 sk_58 rfl d_Ledger_copyFrom_64 (fun h24 eh24 => ?_)
  have hI25 : Inv h24 := inv_put (lo := 0) (hi := 8) hI18 eh24 rfl tE (by (first | decide +kernel | omega))
  have f26 : fr S_Ledger_copyX_3_0 h h24 := fr_put f19 eh24 rfl
  have C27 : rcp h h24 59 8 4 := rcp_put C20 eh24 (by decide)
  have C28 : rcp h h24 60 9 8 := rcp_put C21 eh24 (by decide)
  have C29 : rcp h h24 61 10 8 := rcp_put C22 eh24 (by decide)
  have C30 : rcp h h24 62 11 8 := rcp_put C23 eh24 (by decide)
  exact V_vret rfl d_Ledger_copyFrom_67 ⟨rfl, ⟨hI25, f26, ⟨((kn_put eh24).trans tK.symm), C27, C28, C29, C30⟩⟩⟩
def S_Sights_copyX_3_0 : List (Nat × Option Nat) := [(63, some 4), (64, none), (65, none), (66, none), (67, none)]
abbrev q_Sights_copyX_3_0 (h : Hp) (t : Int32) (tZ : Int) : Option Value → Hp → Prop := pVd (fun h' => Inv h' ∧ fr S_Sights_copyX_3_0 h h' ∧ (h'.1 63 4 = h.1 12 4 ∧ rcp h h' 64 13 8 ∧ rcp h h' 65 14 8 ∧ rcp h h' 66 15 8 ∧ rcp h h' 67 16 8))
set_option maxRecDepth 100000 in
theorem c_Sights_copyX_3_0 (h : Hp) (hI : Inv h) (t : Int32) (tZ : Int) (tE : t.toInt = tZ) (tK : h.1 12 4 = t) : Ct y_Sights_copyFrom b_Sights_copyFrom 2 none 1 60 [.ref 63, .ref 12] h (q_Sights_copyX_3_0 h t tZ) := by
  refine ct_ow R_Sights [some (.ref 63), some (.ref 12)] rfl (by decide) rfl (Nat.le_of_ble_eq_true rfl) ?_
  have f0 : fr S_Sights_copyX_3_0 h h := fr_rf
  have g1 : 0 ≤ tZ ∧ tZ ≤ 8 := inv_at hI tE tK.symm rfl
  refine V_aload_n 1 d_Sights_copyFrom_0 rfl rfl ?_
  refine V_getR fa_Sights_9 sk_12 rfl d_Sights_copyFrom_1 ?_
  refine V_iconst 0 d_Sights_copyFrom_4 (by decide) ?_
  refine V_aload_n 0 d_Sights_copyFrom_5 rfl rfl ?_
  refine V_getR fa_Sights_9 sk_63 rfl d_Sights_copyFrom_6 ?_
  refine V_iconst 0 d_Sights_copyFrom_9 (by decide) ?_
  refine V_bipush 8 d_Sights_copyFrom_10 (by decide) ?_
  refine N_acopy sk_13 sk_64 tc_0 tc_0 tc_8 (by (first | decide +kernel | omega)) wa_Sights_24 wA1 wA2 wA3 d_Sights_copyFrom_12 (by decide) (Nat.le_of_ble_eq_true rfl) (fun h2 eh2 => ?_)
  have hI3 : Inv h2 := inv_cpy (n := 8) hI eh2 (fun _ => rfl)
  have f4 : fr S_Sights_copyX_3_0 h h2 := fr_row f0 eh2 (fun _ => rfl)
  have C5 : rcp h h2 64 13 8 := rcp_now f0 (fun _ => rfl) eh2
  refine V_aload_n 1 d_Sights_copyFrom_15 rfl rfl ?_
  refine V_getR fa_Sights_15 sk_12 rfl d_Sights_copyFrom_16 ?_
  refine V_iconst 0 d_Sights_copyFrom_19 (by decide) ?_
  refine V_aload_n 0 d_Sights_copyFrom_20 rfl rfl ?_
  refine V_getR fa_Sights_15 sk_63 rfl d_Sights_copyFrom_21 ?_
  refine V_iconst 0 d_Sights_copyFrom_24 (by decide) ?_
  refine V_bipush 8 d_Sights_copyFrom_25 (by decide) ?_
  refine N_acopy sk_14 sk_65 tc_0 tc_0 tc_8 (by (first | decide +kernel | omega)) wa_Sights_24 wA1 wA2 wA3 d_Sights_copyFrom_27 (by decide) (Nat.le_of_ble_eq_true rfl) (fun h6 eh6 => ?_)
  have hI7 : Inv h6 := inv_cpy (n := 8) hI3 eh6 (fun _ => rfl)
  have f8 : fr S_Sights_copyX_3_0 h h6 := fr_row f4 eh6 (fun _ => rfl)
  have C9 : rcp h h6 64 13 8 := rcp_row C5 eh6 (by decide)
  have C10 : rcp h h6 65 14 8 := rcp_now f4 (fun _ => rfl) eh6
  refine V_aload_n 1 d_Sights_copyFrom_30 rfl rfl ?_
  refine V_getR fa_Sights_18 sk_12 rfl d_Sights_copyFrom_31 ?_
  refine V_iconst 0 d_Sights_copyFrom_34 (by decide) ?_
  refine V_aload_n 0 d_Sights_copyFrom_35 rfl rfl ?_
  refine V_getR fa_Sights_18 sk_63 rfl d_Sights_copyFrom_36 ?_
  refine V_iconst 0 d_Sights_copyFrom_39 (by decide) ?_
  refine V_bipush 8 d_Sights_copyFrom_40 (by decide) ?_
  refine N_acopy sk_15 sk_66 tc_0 tc_0 tc_8 (by (first | decide +kernel | omega)) wa_Sights_24 wA1 wA2 wA3 d_Sights_copyFrom_42 (by decide) (Nat.le_of_ble_eq_true rfl) (fun h11 eh11 => ?_)
  have hI12 : Inv h11 := inv_cpy (n := 8) hI7 eh11 (fun _ => rfl)
  have f13 : fr S_Sights_copyX_3_0 h h11 := fr_row f8 eh11 (fun _ => rfl)
  have C14 : rcp h h11 64 13 8 := rcp_row C9 eh11 (by decide)
  have C15 : rcp h h11 65 14 8 := rcp_row C10 eh11 (by decide)
  have C16 : rcp h h11 66 15 8 := rcp_now f8 (fun _ => rfl) eh11
  refine V_aload_n 1 d_Sights_copyFrom_45 rfl rfl ?_
  refine V_getR fa_Sights_21 sk_12 rfl d_Sights_copyFrom_46 ?_
  refine V_iconst 0 d_Sights_copyFrom_49 (by decide) ?_
  refine V_aload_n 0 d_Sights_copyFrom_50 rfl rfl ?_
  refine V_getR fa_Sights_21 sk_63 rfl d_Sights_copyFrom_51 ?_
  refine V_iconst 0 d_Sights_copyFrom_54 (by decide) ?_
  refine V_bipush 8 d_Sights_copyFrom_55 (by decide) ?_
  refine N_acopy sk_16 sk_67 tc_0 tc_0 tc_8 (by (first | decide +kernel | omega)) wa_Sights_24 wA1 wA2 wA3 d_Sights_copyFrom_57 (by decide) (Nat.le_of_ble_eq_true rfl) (fun h17 eh17 => ?_)
  have hI18 : Inv h17 := inv_cpy (n := 8) hI12 eh17 (fun _ => rfl)
  have f19 : fr S_Sights_copyX_3_0 h h17 := fr_row f13 eh17 (fun _ => rfl)
  have C20 : rcp h h17 64 13 8 := rcp_row C14 eh17 (by decide)
  have C21 : rcp h h17 65 14 8 := rcp_row C15 eh17 (by decide)
  have C22 : rcp h h17 66 15 8 := rcp_row C16 eh17 (by decide)
  have C23 : rcp h h17 67 16 8 := rcp_now f13 (fun _ => rfl) eh17
  refine V_aload_n 0 d_Sights_copyFrom_60 rfl rfl ?_
  refine V_aload_n 1 d_Sights_copyFrom_61 rfl rfl ?_
  refine N_getK fa_Sights_30 sk_12 rfl d_Sights_copyFrom_62 (kn_row eh17 (kn_row eh11 (kn_row eh6 (kn_row eh2 tK (by decide)) (by decide)) (by decide)) (by decide)) ?_
  refine N_putI fp_Sights_30 sk_63 rfl d_Sights_copyFrom_65 (fun h24 eh24 => ?_)
  have hI25 : Inv h24 := inv_put (lo := 0) (hi := 8) hI18 eh24 rfl tE (by (first | decide +kernel | omega))
  have f26 : fr S_Sights_copyX_3_0 h h24 := fr_put f19 eh24 rfl
  have C27 : rcp h h24 64 13 8 := rcp_put C20 eh24 (by decide)
  have C28 : rcp h h24 65 14 8 := rcp_put C21 eh24 (by decide)
  have C29 : rcp h h24 66 15 8 := rcp_put C22 eh24 (by decide)
  have C30 : rcp h h24 67 16 8 := rcp_put C23 eh24 (by decide)
  exact V_vret rfl d_Sights_copyFrom_68 ⟨rfl, ⟨hI25, f26, ⟨((kn_put eh24).trans tK.symm), C27, C28, C29, C30⟩⟩⟩
def S_County_copyX_3_0 : List (Nat × Option Nat) := [(51, some 3), (51, some 4), (52, none), (53, none), (54, none), (55, none), (56, none), (57, none), (58, some 4), (59, none), (60, none), (61, none), (62, none), (63, some 4), (64, none), (65, none), (66, none), (67, none)]
abbrev q_County_copyX_3_0 (h : Hp) (n : Int32) (nZ : Int) (m : Int32) (mZ : Int) : Option Value → Hp → Prop := pVd (fun h' => Inv h' ∧ fr S_County_copyX_3_0 h h' ∧ (cpy h h' 51 0))
set_option maxRecDepth 100000 in
theorem c_County_copyX_3_0 (h : Hp) (hI : Inv h) (n : Int32) (nZ : Int) (nE : n.toInt = nZ) (nK : h.1 0 3 = n) (m : Int32) (mZ : Int) (mE : m.toInt = mZ) (mK : h.1 0 4 = m) : Ct y_County_copyFrom b_County_copyFrom 2 none 2 81 [.ref 51, .ref 0] h (q_County_copyX_3_0 h n nZ m mZ) := by
  refine ct_ow R_County [some (.ref 51), some (.ref 0)] rfl (by decide) rfl (Nat.le_of_ble_eq_true rfl) ?_
  have f0 : fr S_County_copyX_3_0 h h := fr_rf
  refine V_aload_n 0 d_County_copyFrom_0 rfl rfl ?_
  refine V_getR fa_County_12 sk_51 rfl d_County_copyFrom_1 ?_
  refine V_aload_n 1 d_County_copyFrom_4 rfl rfl ?_
  refine V_getR fa_County_12 sk_0 rfl d_County_copyFrom_5 ?_
  obtain ⟨z1, z1Z, z1E, z1e⟩ : ∃ (y : Int32) (Y : Int), y.toInt = Y ∧ y = h.1 1 0 := ⟨_, _, rfl, rfl⟩
  have g2 : 2 ≤ z1Z ∧ z1Z ≤ 4 := inv_at hI z1E z1e rfl
  obtain ⟨z3, z3Z, z3E, z3e⟩ : ∃ (y : Int32) (Y : Int), y.toInt = Y ∧ y = h.1 1 1 := ⟨_, _, rfl, rfl⟩
  have g4 : 2 ≤ z3Z ∧ z3Z ≤ 4 := inv_at hI z3E z3e rfl
  obtain ⟨z5, z5Z, z5E, z5e⟩ : ∃ (y : Int32) (Y : Int), y.toInt = Y ∧ y = h.1 1 2 := ⟨_, _, rfl, rfl⟩
  obtain ⟨z6, z6Z, z6E, z6e⟩ : ∃ (y : Int32) (Y : Int), y.toInt = Y ∧ y = h.1 1 3 := ⟨_, _, rfl, rfl⟩
  refine N_callVV [.ref 1] [] cv_County_47 sk_52 rfl d_County_copyFrom_8 rfl (Nat.le_of_ble_eq_true rfl) (by decide) (by decide) (c_Land_copyX_3_0 h hI z1 z1Z z1E z1e.symm z3 z3Z z3E z3e.symm z5 z5Z z5E z5e.symm z6 z6Z z6E z6e.symm) (fun h8 p9 => ?_)
  obtain ⟨hI10, fh8, p9⟩ := p9
  have f11 : fr S_County_copyX_3_0 h h8 := fr_call f0 fh8 rfl
  have qL := p9
  refine V_aload_n 0 d_County_copyFrom_11 rfl rfl ?_
  refine V_getR fa_County_21 sk_51 rfl d_County_copyFrom_12 ?_
  refine V_aload_n 1 d_County_copyFrom_15 rfl rfl ?_
  refine V_getR fa_County_21 sk_0 rfl d_County_copyFrom_16 ?_
  obtain ⟨z12, z12Z, z12E, z12e⟩ : ∃ (y : Int32) (Y : Int), y.toInt = Y ∧ y = h8.1 7 4 := ⟨_, _, rfl, rfl⟩
  have g13 : 0 ≤ z12Z ∧ z12Z ≤ 8 := inv_at hI10 z12E z12e rfl
  refine N_callVV [.ref 7] [] cv_County_51 sk_58 rfl d_County_copyFrom_19 rfl (Nat.le_of_ble_eq_true rfl) (by decide) (by decide) (c_Ledger_copyX_3_0 h8 hI10 z12 z12Z z12E z12e.symm) (fun h15 p16 => ?_)
  obtain ⟨hI17, fh15, p16⟩ := p16
  have f18 : fr S_County_copyX_3_0 h h15 := fr_call f11 fh15 rfl
  have qG := p16
  refine V_aload_n 0 d_County_copyFrom_22 rfl rfl ?_
  refine V_getR fa_County_28 sk_51 rfl d_County_copyFrom_23 ?_
  refine V_aload_n 1 d_County_copyFrom_26 rfl rfl ?_
  refine V_getR fa_County_28 sk_0 rfl d_County_copyFrom_27 ?_
  obtain ⟨z19, z19Z, z19E, z19e⟩ : ∃ (y : Int32) (Y : Int), y.toInt = Y ∧ y = h15.1 12 4 := ⟨_, _, rfl, rfl⟩
  have g20 : 0 ≤ z19Z ∧ z19Z ≤ 8 := inv_at hI17 z19E z19e rfl
  refine N_callVV [.ref 12] [] cv_County_54 sk_63 rfl d_County_copyFrom_30 rfl (Nat.le_of_ble_eq_true rfl) (by decide) (by decide) (c_Sights_copyX_3_0 h15 hI17 z19 z19Z z19E z19e.symm) (fun h22 p23 => ?_)
  obtain ⟨hI24, fh22, p23⟩ := p23
  have f25 : fr S_County_copyX_3_0 h h22 := fr_call f18 fh22 rfl
  have qS := p23
  refine V_aload_n 0 d_County_copyFrom_33 rfl rfl ?_
  refine V_aload_n 1 d_County_copyFrom_34 rfl rfl ?_
  refine N_getK fa_County_41 sk_0 rfl d_County_copyFrom_35 (kn_call fh22 (kn_call fh15 (kn_call fh8 nK rfl) rfl) rfl) ?_
  refine N_putI fp_County_41 sk_51 rfl d_County_copyFrom_38 (fun h26 eh26 => ?_)
  have hI27 : Inv h26 := inv_full hI24 eh26 rfl
  have f28 : fr S_County_copyX_3_0 h h26 := fr_put f25 eh26 rfl
  refine V_aload_n 0 d_County_copyFrom_41 rfl rfl ?_
  refine V_aload_n 1 d_County_copyFrom_42 rfl rfl ?_
  refine N_getK fa_County_44 sk_0 rfl d_County_copyFrom_43 (kn_ne eh26 (kn_call fh22 (kn_call fh15 (kn_call fh8 mK rfl) rfl) rfl) (by decide)) ?_
  refine N_putI fp_County_44 sk_51 rfl d_County_copyFrom_46 (fun h29 eh29 => ?_)
  have hI30 : Inv h29 := inv_full hI27 eh29 rfl
  have f31 : fr S_County_copyX_3_0 h h29 := fr_put f28 eh29 rfl
  exact V_vret rfl d_County_copyFrom_49 ⟨rfl, ⟨hI30, f31, (cpy_of (a := 51) (b := 0) qL fh15 qG fh22 qS fh8 eh26 eh29 nK mK rfl rfl rfl rfl)⟩⟩
def S_Land_copyX_0_2 : List (Nat × Option Nat) := [(1, none), (2, none), (3, none), (4, none), (5, none), (6, none)]
abbrev q_Land_copyX_0_2 (h : Hp) (w : Int32) (wZ : Int) (g : Int32) (gZ : Int) (x : Int32) (xZ : Int) (y : Int32) (yZ : Int) : Option Value → Hp → Prop := pVd (fun h' => Inv h' ∧ fr S_Land_copyX_0_2 h h' ∧ (h'.1 1 0 = h.1 35 0 ∧ h'.1 1 1 = h.1 35 1 ∧ h'.1 1 2 = h.1 35 2 ∧ h'.1 1 3 = h.1 35 3 ∧ rcp h h' 2 36 16 ∧ rcp h h' 3 37 16 ∧ rcp h h' 4 38 16 ∧ rcp h h' 5 39 16 ∧ rcp h h' 6 40 16))
set_option maxRecDepth 100000 in
theorem c_Land_copyX_0_2 (h : Hp) (hI : Inv h) (w : Int32) (wZ : Int) (wE : w.toInt = wZ) (wK : h.1 35 0 = w) (g : Int32) (gZ : Int) (gE : g.toInt = gZ) (gK : h.1 35 1 = g) (x : Int32) (xZ : Int) (xE : x.toInt = xZ) (xK : h.1 35 2 = x) (y : Int32) (yZ : Int) (yE : y.toInt = yZ) (yK : h.1 35 3 = y) : Ct y_Land_copyFrom b_Land_copyFrom 2 none 1 60 [.ref 1, .ref 35] h (q_Land_copyX_0_2 h w wZ g gZ x xZ y yZ) := by
  refine ct_ow R_Land [some (.ref 1), some (.ref 35)] rfl (by decide) rfl (Nat.le_of_ble_eq_true rfl) ?_
  have f0 : fr S_Land_copyX_0_2 h h := fr_rf
  have g1 : 2 ≤ wZ ∧ wZ ≤ 4 := inv_at hI wE wK.symm rfl
  have g2 : 2 ≤ gZ ∧ gZ ≤ 4 := inv_at hI gE gK.symm rfl
  refine V_aload_n 0 d_Land_copyFrom_0 rfl rfl ?_
  refine V_aload_n 1 d_Land_copyFrom_1 rfl rfl ?_
  refine N_getK fa_Land_27 sk_35 rfl d_Land_copyFrom_2 wK ?_
  refine N_putI fp_Land_27 sk_1 rfl d_Land_copyFrom_5 (fun h3 eh3 => ?_)
  have hI4 : Inv h3 := inv_put (lo := 2) (hi := 4) hI eh3 rfl wE (by (first | decide +kernel | omega))
  have f5 : fr S_Land_copyX_0_2 h h3 := fr_put f0 eh3 rfl
  refine V_aload_n 0 d_Land_copyFrom_8 rfl rfl ?_
  refine V_aload_n 1 d_Land_copyFrom_9 rfl rfl ?_
  refine N_getK fa_Land_31 sk_35 rfl d_Land_copyFrom_10 (kn_ne eh3 gK (by decide)) ?_
  refine N_putI fp_Land_31 sk_1 rfl d_Land_copyFrom_13 (fun h6 eh6 => ?_)
  have hI7 : Inv h6 := inv_put (lo := 2) (hi := 4) hI4 eh6 rfl gE (by (first | decide +kernel | omega))
  have f8 : fr S_Land_copyX_0_2 h h6 := fr_put f5 eh6 rfl
  refine V_aload_n 0 d_Land_copyFrom_16 rfl rfl ?_
  refine V_aload_n 1 d_Land_copyFrom_17 rfl rfl ?_
  refine N_getK fa_Land_34 sk_35 rfl d_Land_copyFrom_18 (kn_ne eh6 (kn_ne eh3 xK (by decide)) (by decide)) ?_
  refine N_putI fp_Land_34 sk_1 rfl d_Land_copyFrom_21 (fun h9 eh9 => ?_)
  have hI10 : Inv h9 := inv_full hI7 eh9 rfl
  have f11 : fr S_Land_copyX_0_2 h h9 := fr_put f8 eh9 rfl
  refine V_aload_n 0 d_Land_copyFrom_24 rfl rfl ?_
  refine V_aload_n 1 d_Land_copyFrom_25 rfl rfl ?_
  refine N_getK fa_Land_37 sk_35 rfl d_Land_copyFrom_26 (kn_ne eh9 (kn_ne eh6 (kn_ne eh3 yK (by decide)) (by decide)) (by decide)) ?_
  refine N_putI fp_Land_37 sk_1 rfl d_Land_copyFrom_29 (fun h12 eh12 => ?_)
  have hI13 : Inv h12 := inv_full hI10 eh12 rfl
  have f14 : fr S_Land_copyX_0_2 h h12 := fr_put f11 eh12 rfl
  refine V_aload_n 1 d_Land_copyFrom_32 rfl rfl ?_
  refine V_getR fa_Land_9 sk_35 rfl d_Land_copyFrom_33 ?_
  refine V_iconst 0 d_Land_copyFrom_36 (by decide) ?_
  refine V_aload_n 0 d_Land_copyFrom_37 rfl rfl ?_
  refine V_getR fa_Land_9 sk_1 rfl d_Land_copyFrom_38 ?_
  refine V_iconst 0 d_Land_copyFrom_41 (by decide) ?_
  refine V_bipush 16 d_Land_copyFrom_42 (by decide) ?_
  refine N_acopy sk_36 sk_2 tc_0 tc_0 tc_16 (by (first | decide +kernel | omega)) wa_Land_46 wA1 wA2 wA3 d_Land_copyFrom_44 (by decide) (Nat.le_of_ble_eq_true rfl) (fun h15 eh15 => ?_)
  have hI16 : Inv h15 := inv_cpy (n := 16) hI13 eh15 (fun _ => rfl)
  have f17 : fr S_Land_copyX_0_2 h h15 := fr_row f14 eh15 (fun _ => rfl)
  have C18 : rcp h h15 2 36 16 := rcp_now f14 (fun _ => rfl) eh15
  refine V_aload_n 1 d_Land_copyFrom_47 rfl rfl ?_
  refine V_getR fa_Land_15 sk_35 rfl d_Land_copyFrom_48 ?_
  refine V_iconst 0 d_Land_copyFrom_51 (by decide) ?_
  refine V_aload_n 0 d_Land_copyFrom_52 rfl rfl ?_
  refine V_getR fa_Land_15 sk_1 rfl d_Land_copyFrom_53 ?_
  refine V_iconst 0 d_Land_copyFrom_56 (by decide) ?_
  refine V_bipush 16 d_Land_copyFrom_57 (by decide) ?_
  refine N_acopy sk_37 sk_3 tc_0 tc_0 tc_16 (by (first | decide +kernel | omega)) wa_Land_46 wA1 wA2 wA3 d_Land_copyFrom_59 (by decide) (Nat.le_of_ble_eq_true rfl) (fun h19 eh19 => ?_)
  have hI20 : Inv h19 := inv_cpy (n := 16) hI16 eh19 (fun _ => rfl)
  have f21 : fr S_Land_copyX_0_2 h h19 := fr_row f17 eh19 (fun _ => rfl)
  have C22 : rcp h h19 2 36 16 := rcp_row C18 eh19 (by decide)
  have C23 : rcp h h19 3 37 16 := rcp_now f17 (fun _ => rfl) eh19
  refine V_aload_n 1 d_Land_copyFrom_62 rfl rfl ?_
  refine V_getR fa_Land_18 sk_35 rfl d_Land_copyFrom_63 ?_
  refine V_iconst 0 d_Land_copyFrom_66 (by decide) ?_
  refine V_aload_n 0 d_Land_copyFrom_67 rfl rfl ?_
  refine V_getR fa_Land_18 sk_1 rfl d_Land_copyFrom_68 ?_
  refine V_iconst 0 d_Land_copyFrom_71 (by decide) ?_
  refine V_bipush 16 d_Land_copyFrom_72 (by decide) ?_
  refine N_acopy sk_38 sk_4 tc_0 tc_0 tc_16 (by (first | decide +kernel | omega)) wa_Land_46 wA1 wA2 wA3 d_Land_copyFrom_74 (by decide) (Nat.le_of_ble_eq_true rfl) (fun h24 eh24 => ?_)
  have hI25 : Inv h24 := inv_cpy (n := 16) hI20 eh24 (fun _ => rfl)
  have f26 : fr S_Land_copyX_0_2 h h24 := fr_row f21 eh24 (fun _ => rfl)
  have C27 : rcp h h24 2 36 16 := rcp_row C22 eh24 (by decide)
  have C28 : rcp h h24 3 37 16 := rcp_row C23 eh24 (by decide)
  have C29 : rcp h h24 4 38 16 := rcp_now f21 (fun _ => rfl) eh24
  refine V_aload_n 1 d_Land_copyFrom_77 rfl rfl ?_
  refine V_getR fa_Land_21 sk_35 rfl d_Land_copyFrom_78 ?_
  refine V_iconst 0 d_Land_copyFrom_81 (by decide) ?_
  refine V_aload_n 0 d_Land_copyFrom_82 rfl rfl ?_
  refine V_getR fa_Land_21 sk_1 rfl d_Land_copyFrom_83 ?_
  refine V_iconst 0 d_Land_copyFrom_86 (by decide) ?_
  refine V_bipush 16 d_Land_copyFrom_87 (by decide) ?_
  refine N_acopy sk_39 sk_5 tc_0 tc_0 tc_16 (by (first | decide +kernel | omega)) wa_Land_46 wA1 wA2 wA3 d_Land_copyFrom_89 (by decide) (Nat.le_of_ble_eq_true rfl) (fun h30 eh30 => ?_)
  have hI31 : Inv h30 := inv_cpy (n := 16) hI25 eh30 (fun _ => rfl)
  have f32 : fr S_Land_copyX_0_2 h h30 := fr_row f26 eh30 (fun _ => rfl)
  have C33 : rcp h h30 2 36 16 := rcp_row C27 eh30 (by decide)
  have C34 : rcp h h30 3 37 16 := rcp_row C28 eh30 (by decide)
  have C35 : rcp h h30 4 38 16 := rcp_row C29 eh30 (by decide)
  have C36 : rcp h h30 5 39 16 := rcp_now f26 (fun _ => rfl) eh30
  refine V_aload_n 1 d_Land_copyFrom_92 rfl rfl ?_
  refine V_getR fa_Land_24 sk_35 rfl d_Land_copyFrom_93 ?_
  refine V_iconst 0 d_Land_copyFrom_96 (by decide) ?_
  refine V_aload_n 0 d_Land_copyFrom_97 rfl rfl ?_
  refine V_getR fa_Land_24 sk_1 rfl d_Land_copyFrom_98 ?_
  refine V_iconst 0 d_Land_copyFrom_101 (by decide) ?_
  refine V_bipush 16 d_Land_copyFrom_102 (by decide) ?_
  refine N_acopy sk_40 sk_6 tc_0 tc_0 tc_16 (by (first | decide +kernel | omega)) wa_Land_46 wA1 wA2 wA3 d_Land_copyFrom_104 (by decide) (Nat.le_of_ble_eq_true rfl) (fun h37 eh37 => ?_)
  have hI38 : Inv h37 := inv_cpy (n := 16) hI31 eh37 (fun _ => rfl)
  have f39 : fr S_Land_copyX_0_2 h h37 := fr_row f32 eh37 (fun _ => rfl)
  have C40 : rcp h h37 2 36 16 := rcp_row C33 eh37 (by decide)
  have C41 : rcp h h37 3 37 16 := rcp_row C34 eh37 (by decide)
  have C42 : rcp h h37 4 38 16 := rcp_row C35 eh37 (by decide)
  have C43 : rcp h h37 5 39 16 := rcp_row C36 eh37 (by decide)
  have C44 : rcp h h37 6 40 16 := rcp_now f32 (fun _ => rfl) eh37
  exact V_vret rfl d_Land_copyFrom_107 ⟨rfl, ⟨hI38, f39, ⟨((kn_row eh37 (kn_row eh30 (kn_row eh24 (kn_row eh19 (kn_row eh15 (kn_nei eh12 (kn_nei eh9 (kn_nei eh6 (kn_put eh3) (by decide)) (by decide)) (by decide)) (by decide)) (by decide)) (by decide)) (by decide)) (by decide)).trans wK.symm), ((kn_row eh37 (kn_row eh30 (kn_row eh24 (kn_row eh19 (kn_row eh15 (kn_nei eh12 (kn_nei eh9 (kn_put eh6) (by decide)) (by decide)) (by decide)) (by decide)) (by decide)) (by decide)) (by decide)).trans gK.symm), ((kn_row eh37 (kn_row eh30 (kn_row eh24 (kn_row eh19 (kn_row eh15 (kn_nei eh12 (kn_put eh9) (by decide)) (by decide)) (by decide)) (by decide)) (by decide)) (by decide)).trans xK.symm), ((kn_row eh37 (kn_row eh30 (kn_row eh24 (kn_row eh19 (kn_row eh15 (kn_put eh12) (by decide)) (by decide)) (by decide)) (by decide)) (by decide)).trans yK.symm), C40, C41, C42, C43, C44⟩⟩⟩
def S_Ledger_copyX_0_2 : List (Nat × Option Nat) := [(7, some 4), (8, none), (9, none), (10, none), (11, none)]
abbrev q_Ledger_copyX_0_2 (h : Hp) (t : Int32) (tZ : Int) : Option Value → Hp → Prop := pVd (fun h' => Inv h' ∧ fr S_Ledger_copyX_0_2 h h' ∧ (h'.1 7 4 = h.1 41 4 ∧ rcp h h' 8 42 4 ∧ rcp h h' 9 43 8 ∧ rcp h h' 10 44 8 ∧ rcp h h' 11 45 8))
set_option maxRecDepth 100000 in
theorem c_Ledger_copyX_0_2 (h : Hp) (hI : Inv h) (t : Int32) (tZ : Int) (tE : t.toInt = tZ) (tK : h.1 41 4 = t) : Ct y_Ledger_copyFrom b_Ledger_copyFrom 2 none 1 60 [.ref 7, .ref 41] h (q_Ledger_copyX_0_2 h t tZ) := by
  refine ct_ow R_Ledger [some (.ref 7), some (.ref 41)] rfl (by decide) rfl (Nat.le_of_ble_eq_true rfl) ?_
  have f0 : fr S_Ledger_copyX_0_2 h h := fr_rf
  have g1 : 0 ≤ tZ ∧ tZ ≤ 8 := inv_at hI tE tK.symm rfl
  refine V_aload_n 1 d_Ledger_copyFrom_0 rfl rfl ?_
  refine V_getR fa_Ledger_9 sk_41 rfl d_Ledger_copyFrom_1 ?_
  refine V_iconst 0 d_Ledger_copyFrom_4 (by decide) ?_
  refine V_aload_n 0 d_Ledger_copyFrom_5 rfl rfl ?_
  refine V_getR fa_Ledger_9 sk_7 rfl d_Ledger_copyFrom_6 ?_
  refine V_iconst 0 d_Ledger_copyFrom_9 (by decide) ?_
  refine V_iconst 4 d_Ledger_copyFrom_10 (by decide) ?_
  refine N_acopy sk_42 sk_8 tc_0 tc_0 tc_4 (by (first | decide +kernel | omega)) wa_Ledger_34 wA1 wA2 wA3 d_Ledger_copyFrom_11 (by decide) (Nat.le_of_ble_eq_true rfl) (fun h2 eh2 => ?_)
  have hI3 : Inv h2 := inv_cpy (n := 4) hI eh2 (fun _ => rfl)
  have f4 : fr S_Ledger_copyX_0_2 h h2 := fr_row f0 eh2 (fun _ => rfl)
  have C5 : rcp h h2 8 42 4 := rcp_now f0 (fun _ => rfl) eh2
  refine V_aload_n 1 d_Ledger_copyFrom_14 rfl rfl ?_
  refine V_getR fa_Ledger_15 sk_41 rfl d_Ledger_copyFrom_15 ?_
  refine V_iconst 0 d_Ledger_copyFrom_18 (by decide) ?_
  refine V_aload_n 0 d_Ledger_copyFrom_19 rfl rfl ?_
  refine V_getR fa_Ledger_15 sk_7 rfl d_Ledger_copyFrom_20 ?_
  refine V_iconst 0 d_Ledger_copyFrom_23 (by decide) ?_
  refine V_bipush 8 d_Ledger_copyFrom_24 (by decide) ?_
  refine N_acopy sk_43 sk_9 tc_0 tc_0 tc_8 (by (first | decide +kernel | omega)) wa_Ledger_34 wA1 wA2 wA3 d_Ledger_copyFrom_26 (by decide) (Nat.le_of_ble_eq_true rfl) (fun h6 eh6 => ?_)
  have hI7 : Inv h6 := inv_cpy (n := 8) hI3 eh6 (fun _ => rfl)
  have f8 : fr S_Ledger_copyX_0_2 h h6 := fr_row f4 eh6 (fun _ => rfl)
  have C9 : rcp h h6 8 42 4 := rcp_row C5 eh6 (by decide)
  have C10 : rcp h h6 9 43 8 := rcp_now f4 (fun _ => rfl) eh6
  refine V_aload_n 1 d_Ledger_copyFrom_29 rfl rfl ?_
  refine V_getR fa_Ledger_18 sk_41 rfl d_Ledger_copyFrom_30 ?_
  refine V_iconst 0 d_Ledger_copyFrom_33 (by decide) ?_
  refine V_aload_n 0 d_Ledger_copyFrom_34 rfl rfl ?_
  refine V_getR fa_Ledger_18 sk_7 rfl d_Ledger_copyFrom_35 ?_
  refine V_iconst 0 d_Ledger_copyFrom_38 (by decide) ?_
  refine V_bipush 8 d_Ledger_copyFrom_39 (by decide) ?_
  refine N_acopy sk_44 sk_10 tc_0 tc_0 tc_8 (by (first | decide +kernel | omega)) wa_Ledger_34 wA1 wA2 wA3 d_Ledger_copyFrom_41 (by decide) (Nat.le_of_ble_eq_true rfl) (fun h11 eh11 => ?_)
  have hI12 : Inv h11 := inv_cpy (n := 8) hI7 eh11 (fun _ => rfl)
  have f13 : fr S_Ledger_copyX_0_2 h h11 := fr_row f8 eh11 (fun _ => rfl)
  have C14 : rcp h h11 8 42 4 := rcp_row C9 eh11 (by decide)
  have C15 : rcp h h11 9 43 8 := rcp_row C10 eh11 (by decide)
  have C16 : rcp h h11 10 44 8 := rcp_now f8 (fun _ => rfl) eh11
  refine V_aload_n 1 d_Ledger_copyFrom_44 rfl rfl ?_
  refine V_getR fa_Ledger_21 sk_41 rfl d_Ledger_copyFrom_45 ?_
  refine V_iconst 0 d_Ledger_copyFrom_48 (by decide) ?_
  refine V_aload_n 0 d_Ledger_copyFrom_49 rfl rfl ?_
  refine V_getR fa_Ledger_21 sk_7 rfl d_Ledger_copyFrom_50 ?_
  refine V_iconst 0 d_Ledger_copyFrom_53 (by decide) ?_
  refine V_bipush 8 d_Ledger_copyFrom_54 (by decide) ?_
  refine N_acopy sk_45 sk_11 tc_0 tc_0 tc_8 (by (first | decide +kernel | omega)) wa_Ledger_34 wA1 wA2 wA3 d_Ledger_copyFrom_56 (by decide) (Nat.le_of_ble_eq_true rfl) (fun h17 eh17 => ?_)
  have hI18 : Inv h17 := inv_cpy (n := 8) hI12 eh17 (fun _ => rfl)
  have f19 : fr S_Ledger_copyX_0_2 h h17 := fr_row f13 eh17 (fun _ => rfl)
  have C20 : rcp h h17 8 42 4 := rcp_row C14 eh17 (by decide)
  have C21 : rcp h h17 9 43 8 := rcp_row C15 eh17 (by decide)
  have C22 : rcp h h17 10 44 8 := rcp_row C16 eh17 (by decide)
  have C23 : rcp h h17 11 45 8 := rcp_now f13 (fun _ => rfl) eh17
  refine V_aload_n 0 d_Ledger_copyFrom_59 rfl rfl ?_
  refine V_aload_n 1 d_Ledger_copyFrom_60 rfl rfl ?_
  refine N_getK fa_Ledger_30 sk_41 rfl d_Ledger_copyFrom_61 (kn_row eh17 (kn_row eh11 (kn_row eh6 (kn_row eh2 tK (by decide)) (by decide)) (by decide)) (by decide)) ?_
  refine N_putI fp_Ledger_30 sk_7 rfl d_Ledger_copyFrom_64 (fun h24 eh24 => ?_)
  have hI25 : Inv h24 := inv_put (lo := 0) (hi := 8) hI18 eh24 rfl tE (by (first | decide +kernel | omega))
  have f26 : fr S_Ledger_copyX_0_2 h h24 := fr_put f19 eh24 rfl
  have C27 : rcp h h24 8 42 4 := rcp_put C20 eh24 (by decide)
  have C28 : rcp h h24 9 43 8 := rcp_put C21 eh24 (by decide)
  have C29 : rcp h h24 10 44 8 := rcp_put C22 eh24 (by decide)
  have C30 : rcp h h24 11 45 8 := rcp_put C23 eh24 (by decide)
  exact V_vret rfl d_Ledger_copyFrom_67 ⟨rfl, ⟨hI25, f26, ⟨((kn_put eh24).trans tK.symm), C27, C28, C29, C30⟩⟩⟩
def S_Sights_copyX_0_2 : List (Nat × Option Nat) := [(12, some 4), (13, none), (14, none), (15, none), (16, none)]
abbrev q_Sights_copyX_0_2 (h : Hp) (t : Int32) (tZ : Int) : Option Value → Hp → Prop := pVd (fun h' => Inv h' ∧ fr S_Sights_copyX_0_2 h h' ∧ (h'.1 12 4 = h.1 46 4 ∧ rcp h h' 13 47 8 ∧ rcp h h' 14 48 8 ∧ rcp h h' 15 49 8 ∧ rcp h h' 16 50 8))
set_option maxRecDepth 100000 in
theorem c_Sights_copyX_0_2 (h : Hp) (hI : Inv h) (t : Int32) (tZ : Int) (tE : t.toInt = tZ) (tK : h.1 46 4 = t) : Ct y_Sights_copyFrom b_Sights_copyFrom 2 none 1 60 [.ref 12, .ref 46] h (q_Sights_copyX_0_2 h t tZ) := by
  refine ct_ow R_Sights [some (.ref 12), some (.ref 46)] rfl (by decide) rfl (Nat.le_of_ble_eq_true rfl) ?_
  have f0 : fr S_Sights_copyX_0_2 h h := fr_rf
  have g1 : 0 ≤ tZ ∧ tZ ≤ 8 := inv_at hI tE tK.symm rfl
  refine V_aload_n 1 d_Sights_copyFrom_0 rfl rfl ?_
  refine V_getR fa_Sights_9 sk_46 rfl d_Sights_copyFrom_1 ?_
  refine V_iconst 0 d_Sights_copyFrom_4 (by decide) ?_
  refine V_aload_n 0 d_Sights_copyFrom_5 rfl rfl ?_
  refine V_getR fa_Sights_9 sk_12 rfl d_Sights_copyFrom_6 ?_
  refine V_iconst 0 d_Sights_copyFrom_9 (by decide) ?_
  refine V_bipush 8 d_Sights_copyFrom_10 (by decide) ?_
  refine N_acopy sk_47 sk_13 tc_0 tc_0 tc_8 (by (first | decide +kernel | omega)) wa_Sights_24 wA1 wA2 wA3 d_Sights_copyFrom_12 (by decide) (Nat.le_of_ble_eq_true rfl) (fun h2 eh2 => ?_)
  have hI3 : Inv h2 := inv_cpy (n := 8) hI eh2 (fun _ => rfl)
  have f4 : fr S_Sights_copyX_0_2 h h2 := fr_row f0 eh2 (fun _ => rfl)
  have C5 : rcp h h2 13 47 8 := rcp_now f0 (fun _ => rfl) eh2
  refine V_aload_n 1 d_Sights_copyFrom_15 rfl rfl ?_
  refine V_getR fa_Sights_15 sk_46 rfl d_Sights_copyFrom_16 ?_
  refine V_iconst 0 d_Sights_copyFrom_19 (by decide) ?_
  refine V_aload_n 0 d_Sights_copyFrom_20 rfl rfl ?_
  refine V_getR fa_Sights_15 sk_12 rfl d_Sights_copyFrom_21 ?_
  refine V_iconst 0 d_Sights_copyFrom_24 (by decide) ?_
  refine V_bipush 8 d_Sights_copyFrom_25 (by decide) ?_
  refine N_acopy sk_48 sk_14 tc_0 tc_0 tc_8 (by (first | decide +kernel | omega)) wa_Sights_24 wA1 wA2 wA3 d_Sights_copyFrom_27 (by decide) (Nat.le_of_ble_eq_true rfl) (fun h6 eh6 => ?_)
  have hI7 : Inv h6 := inv_cpy (n := 8) hI3 eh6 (fun _ => rfl)
  have f8 : fr S_Sights_copyX_0_2 h h6 := fr_row f4 eh6 (fun _ => rfl)
  have C9 : rcp h h6 13 47 8 := rcp_row C5 eh6 (by decide)
  have C10 : rcp h h6 14 48 8 := rcp_now f4 (fun _ => rfl) eh6
  refine V_aload_n 1 d_Sights_copyFrom_30 rfl rfl ?_
  refine V_getR fa_Sights_18 sk_46 rfl d_Sights_copyFrom_31 ?_
  refine V_iconst 0 d_Sights_copyFrom_34 (by decide) ?_
  refine V_aload_n 0 d_Sights_copyFrom_35 rfl rfl ?_
  refine V_getR fa_Sights_18 sk_12 rfl d_Sights_copyFrom_36 ?_
  refine V_iconst 0 d_Sights_copyFrom_39 (by decide) ?_
  refine V_bipush 8 d_Sights_copyFrom_40 (by decide) ?_
  refine N_acopy sk_49 sk_15 tc_0 tc_0 tc_8 (by (first | decide +kernel | omega)) wa_Sights_24 wA1 wA2 wA3 d_Sights_copyFrom_42 (by decide) (Nat.le_of_ble_eq_true rfl) (fun h11 eh11 => ?_)
  have hI12 : Inv h11 := inv_cpy (n := 8) hI7 eh11 (fun _ => rfl)
  have f13 : fr S_Sights_copyX_0_2 h h11 := fr_row f8 eh11 (fun _ => rfl)
  have C14 : rcp h h11 13 47 8 := rcp_row C9 eh11 (by decide)
  have C15 : rcp h h11 14 48 8 := rcp_row C10 eh11 (by decide)
  have C16 : rcp h h11 15 49 8 := rcp_now f8 (fun _ => rfl) eh11
  refine V_aload_n 1 d_Sights_copyFrom_45 rfl rfl ?_
  refine V_getR fa_Sights_21 sk_46 rfl d_Sights_copyFrom_46 ?_
  refine V_iconst 0 d_Sights_copyFrom_49 (by decide) ?_
  refine V_aload_n 0 d_Sights_copyFrom_50 rfl rfl ?_
  refine V_getR fa_Sights_21 sk_12 rfl d_Sights_copyFrom_51 ?_
  refine V_iconst 0 d_Sights_copyFrom_54 (by decide) ?_
  refine V_bipush 8 d_Sights_copyFrom_55 (by decide) ?_
  refine N_acopy sk_50 sk_16 tc_0 tc_0 tc_8 (by (first | decide +kernel | omega)) wa_Sights_24 wA1 wA2 wA3 d_Sights_copyFrom_57 (by decide) (Nat.le_of_ble_eq_true rfl) (fun h17 eh17 => ?_)
  have hI18 : Inv h17 := inv_cpy (n := 8) hI12 eh17 (fun _ => rfl)
  have f19 : fr S_Sights_copyX_0_2 h h17 := fr_row f13 eh17 (fun _ => rfl)
  have C20 : rcp h h17 13 47 8 := rcp_row C14 eh17 (by decide)
  have C21 : rcp h h17 14 48 8 := rcp_row C15 eh17 (by decide)
  have C22 : rcp h h17 15 49 8 := rcp_row C16 eh17 (by decide)
  have C23 : rcp h h17 16 50 8 := rcp_now f13 (fun _ => rfl) eh17
  refine V_aload_n 0 d_Sights_copyFrom_60 rfl rfl ?_
  refine V_aload_n 1 d_Sights_copyFrom_61 rfl rfl ?_
  refine N_getK fa_Sights_30 sk_46 rfl d_Sights_copyFrom_62 (kn_row eh17 (kn_row eh11 (kn_row eh6 (kn_row eh2 tK (by decide)) (by decide)) (by decide)) (by decide)) ?_
  refine N_putI fp_Sights_30 sk_12 rfl d_Sights_copyFrom_65 (fun h24 eh24 => ?_)
  have hI25 : Inv h24 := inv_put (lo := 0) (hi := 8) hI18 eh24 rfl tE (by (first | decide +kernel | omega))
  have f26 : fr S_Sights_copyX_0_2 h h24 := fr_put f19 eh24 rfl
  have C27 : rcp h h24 13 47 8 := rcp_put C20 eh24 (by decide)
  have C28 : rcp h h24 14 48 8 := rcp_put C21 eh24 (by decide)
  have C29 : rcp h h24 15 49 8 := rcp_put C22 eh24 (by decide)
  have C30 : rcp h h24 16 50 8 := rcp_put C23 eh24 (by decide)
  exact V_vret rfl d_Sights_copyFrom_68 ⟨rfl, ⟨hI25, f26, ⟨((kn_put eh24).trans tK.symm), C27, C28, C29, C30⟩⟩⟩
def S_County_copyX_0_2 : List (Nat × Option Nat) := [(0, some 3), (0, some 4), (1, none), (2, none), (3, none), (4, none), (5, none), (6, none), (7, some 4), (8, none), (9, none), (10, none), (11, none), (12, some 4), (13, none), (14, none), (15, none), (16, none)]
abbrev q_County_copyX_0_2 (h : Hp) (n : Int32) (nZ : Int) (m : Int32) (mZ : Int) : Option Value → Hp → Prop := pVd (fun h' => Inv h' ∧ fr S_County_copyX_0_2 h h' ∧ (cpy h h' 0 34))
set_option maxRecDepth 100000 in
theorem c_County_copyX_0_2 (h : Hp) (hI : Inv h) (n : Int32) (nZ : Int) (nE : n.toInt = nZ) (nK : h.1 34 3 = n) (m : Int32) (mZ : Int) (mE : m.toInt = mZ) (mK : h.1 34 4 = m) : Ct y_County_copyFrom b_County_copyFrom 2 none 2 81 [.ref 0, .ref 34] h (q_County_copyX_0_2 h n nZ m mZ) := by
  refine ct_ow R_County [some (.ref 0), some (.ref 34)] rfl (by decide) rfl (Nat.le_of_ble_eq_true rfl) ?_
  have f0 : fr S_County_copyX_0_2 h h := fr_rf
  refine V_aload_n 0 d_County_copyFrom_0 rfl rfl ?_
  refine V_getR fa_County_12 sk_0 rfl d_County_copyFrom_1 ?_
  refine V_aload_n 1 d_County_copyFrom_4 rfl rfl ?_
  refine V_getR fa_County_12 sk_34 rfl d_County_copyFrom_5 ?_
  obtain ⟨z1, z1Z, z1E, z1e⟩ : ∃ (y : Int32) (Y : Int), y.toInt = Y ∧ y = h.1 35 0 := ⟨_, _, rfl, rfl⟩
  have g2 : 2 ≤ z1Z ∧ z1Z ≤ 4 := inv_at hI z1E z1e rfl
  obtain ⟨z3, z3Z, z3E, z3e⟩ : ∃ (y : Int32) (Y : Int), y.toInt = Y ∧ y = h.1 35 1 := ⟨_, _, rfl, rfl⟩
  have g4 : 2 ≤ z3Z ∧ z3Z ≤ 4 := inv_at hI z3E z3e rfl
  obtain ⟨z5, z5Z, z5E, z5e⟩ : ∃ (y : Int32) (Y : Int), y.toInt = Y ∧ y = h.1 35 2 := ⟨_, _, rfl, rfl⟩
  obtain ⟨z6, z6Z, z6E, z6e⟩ : ∃ (y : Int32) (Y : Int), y.toInt = Y ∧ y = h.1 35 3 := ⟨_, _, rfl, rfl⟩
  refine N_callVV [.ref 35] [] cv_County_47 sk_1 rfl d_County_copyFrom_8 rfl (Nat.le_of_ble_eq_true rfl) (by decide) (by decide) (c_Land_copyX_0_2 h hI z1 z1Z z1E z1e.symm z3 z3Z z3E z3e.symm z5 z5Z z5E z5e.symm z6 z6Z z6E z6e.symm) (fun h8 p9 => ?_)
  obtain ⟨hI10, fh8, p9⟩ := p9
  have f11 : fr S_County_copyX_0_2 h h8 := fr_call f0 fh8 rfl
  have qL := p9
  refine V_aload_n 0 d_County_copyFrom_11 rfl rfl ?_
  refine V_getR fa_County_21 sk_0 rfl d_County_copyFrom_12 ?_
  refine V_aload_n 1 d_County_copyFrom_15 rfl rfl ?_
  refine V_getR fa_County_21 sk_34 rfl d_County_copyFrom_16 ?_
  obtain ⟨z12, z12Z, z12E, z12e⟩ : ∃ (y : Int32) (Y : Int), y.toInt = Y ∧ y = h8.1 41 4 := ⟨_, _, rfl, rfl⟩
  have g13 : 0 ≤ z12Z ∧ z12Z ≤ 8 := inv_at hI10 z12E z12e rfl
  refine N_callVV [.ref 41] [] cv_County_51 sk_7 rfl d_County_copyFrom_19 rfl (Nat.le_of_ble_eq_true rfl) (by decide) (by decide) (c_Ledger_copyX_0_2 h8 hI10 z12 z12Z z12E z12e.symm) (fun h15 p16 => ?_)
  obtain ⟨hI17, fh15, p16⟩ := p16
  have f18 : fr S_County_copyX_0_2 h h15 := fr_call f11 fh15 rfl
  have qG := p16
  refine V_aload_n 0 d_County_copyFrom_22 rfl rfl ?_
  refine V_getR fa_County_28 sk_0 rfl d_County_copyFrom_23 ?_
  refine V_aload_n 1 d_County_copyFrom_26 rfl rfl ?_
  refine V_getR fa_County_28 sk_34 rfl d_County_copyFrom_27 ?_
  obtain ⟨z19, z19Z, z19E, z19e⟩ : ∃ (y : Int32) (Y : Int), y.toInt = Y ∧ y = h15.1 46 4 := ⟨_, _, rfl, rfl⟩
  have g20 : 0 ≤ z19Z ∧ z19Z ≤ 8 := inv_at hI17 z19E z19e rfl
  refine N_callVV [.ref 46] [] cv_County_54 sk_12 rfl d_County_copyFrom_30 rfl (Nat.le_of_ble_eq_true rfl) (by decide) (by decide) (c_Sights_copyX_0_2 h15 hI17 z19 z19Z z19E z19e.symm) (fun h22 p23 => ?_)
  obtain ⟨hI24, fh22, p23⟩ := p23
  have f25 : fr S_County_copyX_0_2 h h22 := fr_call f18 fh22 rfl
  have qS := p23
  refine V_aload_n 0 d_County_copyFrom_33 rfl rfl ?_
  refine V_aload_n 1 d_County_copyFrom_34 rfl rfl ?_
  refine N_getK fa_County_41 sk_34 rfl d_County_copyFrom_35 (kn_call fh22 (kn_call fh15 (kn_call fh8 nK rfl) rfl) rfl) ?_
  refine N_putI fp_County_41 sk_0 rfl d_County_copyFrom_38 (fun h26 eh26 => ?_)
  have hI27 : Inv h26 := inv_full hI24 eh26 rfl
  have f28 : fr S_County_copyX_0_2 h h26 := fr_put f25 eh26 rfl
  refine V_aload_n 0 d_County_copyFrom_41 rfl rfl ?_
  refine V_aload_n 1 d_County_copyFrom_42 rfl rfl ?_
  refine N_getK fa_County_44 sk_34 rfl d_County_copyFrom_43 (kn_ne eh26 (kn_call fh22 (kn_call fh15 (kn_call fh8 mK rfl) rfl) rfl) (by decide)) ?_
  refine N_putI fp_County_44 sk_0 rfl d_County_copyFrom_46 (fun h29 eh29 => ?_)
  have hI30 : Inv h29 := inv_full hI27 eh29 rfl
  have f31 : fr S_County_copyX_0_2 h h29 := fr_put f28 eh29 rfl
  exact V_vret rfl d_County_copyFrom_49 ⟨rfl, ⟨hI30, f31, (cpy_of (a := 0) (b := 34) qL fh15 qG fh22 qS fh8 eh26 eh29 nK mK rfl rfl rfl rfl)⟩⟩
def S_Land_copyX_0_3 : List (Nat × Option Nat) := [(1, none), (2, none), (3, none), (4, none), (5, none), (6, none)]
abbrev q_Land_copyX_0_3 (h : Hp) (w : Int32) (wZ : Int) (g : Int32) (gZ : Int) (x : Int32) (xZ : Int) (y : Int32) (yZ : Int) : Option Value → Hp → Prop := pVd (fun h' => Inv h' ∧ fr S_Land_copyX_0_3 h h' ∧ (h'.1 1 0 = h.1 52 0 ∧ h'.1 1 1 = h.1 52 1 ∧ h'.1 1 2 = h.1 52 2 ∧ h'.1 1 3 = h.1 52 3 ∧ rcp h h' 2 53 16 ∧ rcp h h' 3 54 16 ∧ rcp h h' 4 55 16 ∧ rcp h h' 5 56 16 ∧ rcp h h' 6 57 16))
set_option maxRecDepth 100000 in
theorem c_Land_copyX_0_3 (h : Hp) (hI : Inv h) (w : Int32) (wZ : Int) (wE : w.toInt = wZ) (wK : h.1 52 0 = w) (g : Int32) (gZ : Int) (gE : g.toInt = gZ) (gK : h.1 52 1 = g) (x : Int32) (xZ : Int) (xE : x.toInt = xZ) (xK : h.1 52 2 = x) (y : Int32) (yZ : Int) (yE : y.toInt = yZ) (yK : h.1 52 3 = y) : Ct y_Land_copyFrom b_Land_copyFrom 2 none 1 60 [.ref 1, .ref 52] h (q_Land_copyX_0_3 h w wZ g gZ x xZ y yZ) := by
  refine ct_ow R_Land [some (.ref 1), some (.ref 52)] rfl (by decide) rfl (Nat.le_of_ble_eq_true rfl) ?_
  have f0 : fr S_Land_copyX_0_3 h h := fr_rf
  have g1 : 2 ≤ wZ ∧ wZ ≤ 4 := inv_at hI wE wK.symm rfl
  have g2 : 2 ≤ gZ ∧ gZ ≤ 4 := inv_at hI gE gK.symm rfl
  refine V_aload_n 0 d_Land_copyFrom_0 rfl rfl ?_
  refine V_aload_n 1 d_Land_copyFrom_1 rfl rfl ?_
  refine N_getK fa_Land_27 sk_52 rfl d_Land_copyFrom_2 wK ?_
  refine N_putI fp_Land_27 sk_1 rfl d_Land_copyFrom_5 (fun h3 eh3 => ?_)
  have hI4 : Inv h3 := inv_put (lo := 2) (hi := 4) hI eh3 rfl wE (by (first | decide +kernel | omega))
  have f5 : fr S_Land_copyX_0_3 h h3 := fr_put f0 eh3 rfl
  refine V_aload_n 0 d_Land_copyFrom_8 rfl rfl ?_
  refine V_aload_n 1 d_Land_copyFrom_9 rfl rfl ?_
  refine N_getK fa_Land_31 sk_52 rfl d_Land_copyFrom_10 (kn_ne eh3 gK (by decide)) ?_
  refine N_putI fp_Land_31 sk_1 rfl d_Land_copyFrom_13 (fun h6 eh6 => ?_)
  have hI7 : Inv h6 := inv_put (lo := 2) (hi := 4) hI4 eh6 rfl gE (by (first | decide +kernel | omega))
  have f8 : fr S_Land_copyX_0_3 h h6 := fr_put f5 eh6 rfl
  refine V_aload_n 0 d_Land_copyFrom_16 rfl rfl ?_
  refine V_aload_n 1 d_Land_copyFrom_17 rfl rfl ?_
  refine N_getK fa_Land_34 sk_52 rfl d_Land_copyFrom_18 (kn_ne eh6 (kn_ne eh3 xK (by decide)) (by decide)) ?_
  refine N_putI fp_Land_34 sk_1 rfl d_Land_copyFrom_21 (fun h9 eh9 => ?_)
  have hI10 : Inv h9 := inv_full hI7 eh9 rfl
  have f11 : fr S_Land_copyX_0_3 h h9 := fr_put f8 eh9 rfl
  refine V_aload_n 0 d_Land_copyFrom_24 rfl rfl ?_
  refine V_aload_n 1 d_Land_copyFrom_25 rfl rfl ?_
  refine N_getK fa_Land_37 sk_52 rfl d_Land_copyFrom_26 (kn_ne eh9 (kn_ne eh6 (kn_ne eh3 yK (by decide)) (by decide)) (by decide)) ?_
  refine N_putI fp_Land_37 sk_1 rfl d_Land_copyFrom_29 (fun h12 eh12 => ?_)
  have hI13 : Inv h12 := inv_full hI10 eh12 rfl
  have f14 : fr S_Land_copyX_0_3 h h12 := fr_put f11 eh12 rfl
  refine V_aload_n 1 d_Land_copyFrom_32 rfl rfl ?_
  refine V_getR fa_Land_9 sk_52 rfl d_Land_copyFrom_33 ?_
  refine V_iconst 0 d_Land_copyFrom_36 (by decide) ?_
  refine V_aload_n 0 d_Land_copyFrom_37 rfl rfl ?_
  refine V_getR fa_Land_9 sk_1 rfl d_Land_copyFrom_38 ?_
  refine V_iconst 0 d_Land_copyFrom_41 (by decide) ?_
  refine V_bipush 16 d_Land_copyFrom_42 (by decide) ?_
  refine N_acopy sk_53 sk_2 tc_0 tc_0 tc_16 (by (first | decide +kernel | omega)) wa_Land_46 wA1 wA2 wA3 d_Land_copyFrom_44 (by decide) (Nat.le_of_ble_eq_true rfl) (fun h15 eh15 => ?_)
  have hI16 : Inv h15 := inv_cpy (n := 16) hI13 eh15 (fun _ => rfl)
  have f17 : fr S_Land_copyX_0_3 h h15 := fr_row f14 eh15 (fun _ => rfl)
  have C18 : rcp h h15 2 53 16 := rcp_now f14 (fun _ => rfl) eh15
  refine V_aload_n 1 d_Land_copyFrom_47 rfl rfl ?_
  refine V_getR fa_Land_15 sk_52 rfl d_Land_copyFrom_48 ?_
  refine V_iconst 0 d_Land_copyFrom_51 (by decide) ?_
  refine V_aload_n 0 d_Land_copyFrom_52 rfl rfl ?_
  refine V_getR fa_Land_15 sk_1 rfl d_Land_copyFrom_53 ?_
  refine V_iconst 0 d_Land_copyFrom_56 (by decide) ?_
  refine V_bipush 16 d_Land_copyFrom_57 (by decide) ?_
  refine N_acopy sk_54 sk_3 tc_0 tc_0 tc_16 (by (first | decide +kernel | omega)) wa_Land_46 wA1 wA2 wA3 d_Land_copyFrom_59 (by decide) (Nat.le_of_ble_eq_true rfl) (fun h19 eh19 => ?_)
  have hI20 : Inv h19 := inv_cpy (n := 16) hI16 eh19 (fun _ => rfl)
  have f21 : fr S_Land_copyX_0_3 h h19 := fr_row f17 eh19 (fun _ => rfl)
  have C22 : rcp h h19 2 53 16 := rcp_row C18 eh19 (by decide)
  have C23 : rcp h h19 3 54 16 := rcp_now f17 (fun _ => rfl) eh19
  refine V_aload_n 1 d_Land_copyFrom_62 rfl rfl ?_
  refine V_getR fa_Land_18 sk_52 rfl d_Land_copyFrom_63 ?_
  refine V_iconst 0 d_Land_copyFrom_66 (by decide) ?_
  refine V_aload_n 0 d_Land_copyFrom_67 rfl rfl ?_
  refine V_getR fa_Land_18 sk_1 rfl d_Land_copyFrom_68 ?_
  refine V_iconst 0 d_Land_copyFrom_71 (by decide) ?_
  refine V_bipush 16 d_Land_copyFrom_72 (by decide) ?_
  refine N_acopy sk_55 sk_4 tc_0 tc_0 tc_16 (by (first | decide +kernel | omega)) wa_Land_46 wA1 wA2 wA3 d_Land_copyFrom_74 (by decide) (Nat.le_of_ble_eq_true rfl) (fun h24 eh24 => ?_)
  have hI25 : Inv h24 := inv_cpy (n := 16) hI20 eh24 (fun _ => rfl)
  have f26 : fr S_Land_copyX_0_3 h h24 := fr_row f21 eh24 (fun _ => rfl)
  have C27 : rcp h h24 2 53 16 := rcp_row C22 eh24 (by decide)
  have C28 : rcp h h24 3 54 16 := rcp_row C23 eh24 (by decide)
  have C29 : rcp h h24 4 55 16 := rcp_now f21 (fun _ => rfl) eh24
  refine V_aload_n 1 d_Land_copyFrom_77 rfl rfl ?_
  refine V_getR fa_Land_21 sk_52 rfl d_Land_copyFrom_78 ?_
  refine V_iconst 0 d_Land_copyFrom_81 (by decide) ?_
  refine V_aload_n 0 d_Land_copyFrom_82 rfl rfl ?_
  refine V_getR fa_Land_21 sk_1 rfl d_Land_copyFrom_83 ?_
  refine V_iconst 0 d_Land_copyFrom_86 (by decide) ?_
  refine V_bipush 16 d_Land_copyFrom_87 (by decide) ?_
  refine N_acopy sk_56 sk_5 tc_0 tc_0 tc_16 (by (first | decide +kernel | omega)) wa_Land_46 wA1 wA2 wA3 d_Land_copyFrom_89 (by decide) (Nat.le_of_ble_eq_true rfl) (fun h30 eh30 => ?_)
  have hI31 : Inv h30 := inv_cpy (n := 16) hI25 eh30 (fun _ => rfl)
  have f32 : fr S_Land_copyX_0_3 h h30 := fr_row f26 eh30 (fun _ => rfl)
  have C33 : rcp h h30 2 53 16 := rcp_row C27 eh30 (by decide)
  have C34 : rcp h h30 3 54 16 := rcp_row C28 eh30 (by decide)
  have C35 : rcp h h30 4 55 16 := rcp_row C29 eh30 (by decide)
  have C36 : rcp h h30 5 56 16 := rcp_now f26 (fun _ => rfl) eh30
  refine V_aload_n 1 d_Land_copyFrom_92 rfl rfl ?_
  refine V_getR fa_Land_24 sk_52 rfl d_Land_copyFrom_93 ?_
  refine V_iconst 0 d_Land_copyFrom_96 (by decide) ?_
  refine V_aload_n 0 d_Land_copyFrom_97 rfl rfl ?_
  refine V_getR fa_Land_24 sk_1 rfl d_Land_copyFrom_98 ?_
  refine V_iconst 0 d_Land_copyFrom_101 (by decide) ?_
  refine V_bipush 16 d_Land_copyFrom_102 (by decide) ?_
  refine N_acopy sk_57 sk_6 tc_0 tc_0 tc_16 (by (first | decide +kernel | omega)) wa_Land_46 wA1 wA2 wA3 d_Land_copyFrom_104 (by decide) (Nat.le_of_ble_eq_true rfl) (fun h37 eh37 => ?_)
  have hI38 : Inv h37 := inv_cpy (n := 16) hI31 eh37 (fun _ => rfl)
  have f39 : fr S_Land_copyX_0_3 h h37 := fr_row f32 eh37 (fun _ => rfl)
  have C40 : rcp h h37 2 53 16 := rcp_row C33 eh37 (by decide)
  have C41 : rcp h h37 3 54 16 := rcp_row C34 eh37 (by decide)
  have C42 : rcp h h37 4 55 16 := rcp_row C35 eh37 (by decide)
  have C43 : rcp h h37 5 56 16 := rcp_row C36 eh37 (by decide)
  have C44 : rcp h h37 6 57 16 := rcp_now f32 (fun _ => rfl) eh37
  exact V_vret rfl d_Land_copyFrom_107 ⟨rfl, ⟨hI38, f39, ⟨((kn_row eh37 (kn_row eh30 (kn_row eh24 (kn_row eh19 (kn_row eh15 (kn_nei eh12 (kn_nei eh9 (kn_nei eh6 (kn_put eh3) (by decide)) (by decide)) (by decide)) (by decide)) (by decide)) (by decide)) (by decide)) (by decide)).trans wK.symm), ((kn_row eh37 (kn_row eh30 (kn_row eh24 (kn_row eh19 (kn_row eh15 (kn_nei eh12 (kn_nei eh9 (kn_put eh6) (by decide)) (by decide)) (by decide)) (by decide)) (by decide)) (by decide)) (by decide)).trans gK.symm), ((kn_row eh37 (kn_row eh30 (kn_row eh24 (kn_row eh19 (kn_row eh15 (kn_nei eh12 (kn_put eh9) (by decide)) (by decide)) (by decide)) (by decide)) (by decide)) (by decide)).trans xK.symm), ((kn_row eh37 (kn_row eh30 (kn_row eh24 (kn_row eh19 (kn_row eh15 (kn_put eh12) (by decide)) (by decide)) (by decide)) (by decide)) (by decide)).trans yK.symm), C40, C41, C42, C43, C44⟩⟩⟩
def S_Ledger_copyX_0_3 : List (Nat × Option Nat) := [(7, some 4), (8, none), (9, none), (10, none), (11, none)]
abbrev q_Ledger_copyX_0_3 (h : Hp) (t : Int32) (tZ : Int) : Option Value → Hp → Prop := pVd (fun h' => Inv h' ∧ fr S_Ledger_copyX_0_3 h h' ∧ (h'.1 7 4 = h.1 58 4 ∧ rcp h h' 8 59 4 ∧ rcp h h' 9 60 8 ∧ rcp h h' 10 61 8 ∧ rcp h h' 11 62 8))
set_option maxRecDepth 100000 in
theorem c_Ledger_copyX_0_3 (h : Hp) (hI : Inv h) (t : Int32) (tZ : Int) (tE : t.toInt = tZ) (tK : h.1 58 4 = t) : Ct y_Ledger_copyFrom b_Ledger_copyFrom 2 none 1 60 [.ref 7, .ref 58] h (q_Ledger_copyX_0_3 h t tZ) := by
  refine ct_ow R_Ledger [some (.ref 7), some (.ref 58)] rfl (by decide) rfl (Nat.le_of_ble_eq_true rfl) ?_
  have f0 : fr S_Ledger_copyX_0_3 h h := fr_rf
  have g1 : 0 ≤ tZ ∧ tZ ≤ 8 := inv_at hI tE tK.symm rfl
  refine V_aload_n 1 d_Ledger_copyFrom_0 rfl rfl ?_
  refine V_getR fa_Ledger_9 sk_58 rfl d_Ledger_copyFrom_1 ?_
  refine V_iconst 0 d_Ledger_copyFrom_4 (by decide) ?_
  refine V_aload_n 0 d_Ledger_copyFrom_5 rfl rfl ?_
  refine V_getR fa_Ledger_9 sk_7 rfl d_Ledger_copyFrom_6 ?_
  refine V_iconst 0 d_Ledger_copyFrom_9 (by decide) ?_
  refine V_iconst 4 d_Ledger_copyFrom_10 (by decide) ?_
  refine N_acopy sk_59 sk_8 tc_0 tc_0 tc_4 (by (first | decide +kernel | omega)) wa_Ledger_34 wA1 wA2 wA3 d_Ledger_copyFrom_11 (by decide) (Nat.le_of_ble_eq_true rfl) (fun h2 eh2 => ?_)
  have hI3 : Inv h2 := inv_cpy (n := 4) hI eh2 (fun _ => rfl)
  have f4 : fr S_Ledger_copyX_0_3 h h2 := fr_row f0 eh2 (fun _ => rfl)
  have C5 : rcp h h2 8 59 4 := rcp_now f0 (fun _ => rfl) eh2
  refine V_aload_n 1 d_Ledger_copyFrom_14 rfl rfl ?_
  refine V_getR fa_Ledger_15 sk_58 rfl d_Ledger_copyFrom_15 ?_
  refine V_iconst 0 d_Ledger_copyFrom_18 (by decide) ?_
  refine V_aload_n 0 d_Ledger_copyFrom_19 rfl rfl ?_
  refine V_getR fa_Ledger_15 sk_7 rfl d_Ledger_copyFrom_20 ?_
  refine V_iconst 0 d_Ledger_copyFrom_23 (by decide) ?_
  refine V_bipush 8 d_Ledger_copyFrom_24 (by decide) ?_
  refine N_acopy sk_60 sk_9 tc_0 tc_0 tc_8 (by (first | decide +kernel | omega)) wa_Ledger_34 wA1 wA2 wA3 d_Ledger_copyFrom_26 (by decide) (Nat.le_of_ble_eq_true rfl) (fun h6 eh6 => ?_)
  have hI7 : Inv h6 := inv_cpy (n := 8) hI3 eh6 (fun _ => rfl)
  have f8 : fr S_Ledger_copyX_0_3 h h6 := fr_row f4 eh6 (fun _ => rfl)
  have C9 : rcp h h6 8 59 4 := rcp_row C5 eh6 (by decide)
  have C10 : rcp h h6 9 60 8 := rcp_now f4 (fun _ => rfl) eh6
  refine V_aload_n 1 d_Ledger_copyFrom_29 rfl rfl ?_
  refine V_getR fa_Ledger_18 sk_58 rfl d_Ledger_copyFrom_30 ?_
  refine V_iconst 0 d_Ledger_copyFrom_33 (by decide) ?_
  refine V_aload_n 0 d_Ledger_copyFrom_34 rfl rfl ?_
  refine V_getR fa_Ledger_18 sk_7 rfl d_Ledger_copyFrom_35 ?_
  refine V_iconst 0 d_Ledger_copyFrom_38 (by decide) ?_
  refine V_bipush 8 d_Ledger_copyFrom_39 (by decide) ?_
  refine N_acopy sk_61 sk_10 tc_0 tc_0 tc_8 (by (first | decide +kernel | omega)) wa_Ledger_34 wA1 wA2 wA3 d_Ledger_copyFrom_41 (by decide) (Nat.le_of_ble_eq_true rfl) (fun h11 eh11 => ?_)
  have hI12 : Inv h11 := inv_cpy (n := 8) hI7 eh11 (fun _ => rfl)
  have f13 : fr S_Ledger_copyX_0_3 h h11 := fr_row f8 eh11 (fun _ => rfl)
  have C14 : rcp h h11 8 59 4 := rcp_row C9 eh11 (by decide)
  have C15 : rcp h h11 9 60 8 := rcp_row C10 eh11 (by decide)
  have C16 : rcp h h11 10 61 8 := rcp_now f8 (fun _ => rfl) eh11
  refine V_aload_n 1 d_Ledger_copyFrom_44 rfl rfl ?_
  refine V_getR fa_Ledger_21 sk_58 rfl d_Ledger_copyFrom_45 ?_
  refine V_iconst 0 d_Ledger_copyFrom_48 (by decide) ?_
  refine V_aload_n 0 d_Ledger_copyFrom_49 rfl rfl ?_
  refine V_getR fa_Ledger_21 sk_7 rfl d_Ledger_copyFrom_50 ?_
  refine V_iconst 0 d_Ledger_copyFrom_53 (by decide) ?_
  refine V_bipush 8 d_Ledger_copyFrom_54 (by decide) ?_
  refine N_acopy sk_62 sk_11 tc_0 tc_0 tc_8 (by (first | decide +kernel | omega)) wa_Ledger_34 wA1 wA2 wA3 d_Ledger_copyFrom_56 (by decide) (Nat.le_of_ble_eq_true rfl) (fun h17 eh17 => ?_)
  have hI18 : Inv h17 := inv_cpy (n := 8) hI12 eh17 (fun _ => rfl)
  have f19 : fr S_Ledger_copyX_0_3 h h17 := fr_row f13 eh17 (fun _ => rfl)
  have C20 : rcp h h17 8 59 4 := rcp_row C14 eh17 (by decide)
  have C21 : rcp h h17 9 60 8 := rcp_row C15 eh17 (by decide)
  have C22 : rcp h h17 10 61 8 := rcp_row C16 eh17 (by decide)
  have C23 : rcp h h17 11 62 8 := rcp_now f13 (fun _ => rfl) eh17
  refine V_aload_n 0 d_Ledger_copyFrom_59 rfl rfl ?_
  refine V_aload_n 1 d_Ledger_copyFrom_60 rfl rfl ?_
  refine N_getK fa_Ledger_30 sk_58 rfl d_Ledger_copyFrom_61 (kn_row eh17 (kn_row eh11 (kn_row eh6 (kn_row eh2 tK (by decide)) (by decide)) (by decide)) (by decide)) ?_
  refine N_putI fp_Ledger_30 sk_7 rfl d_Ledger_copyFrom_64 (fun h24 eh24 => ?_)
  have hI25 : Inv h24 := inv_put (lo := 0) (hi := 8) hI18 eh24 rfl tE (by (first | decide +kernel | omega))
  have f26 : fr S_Ledger_copyX_0_3 h h24 := fr_put f19 eh24 rfl
  have C27 : rcp h h24 8 59 4 := rcp_put C20 eh24 (by decide)
  have C28 : rcp h h24 9 60 8 := rcp_put C21 eh24 (by decide)
  have C29 : rcp h h24 10 61 8 := rcp_put C22 eh24 (by decide)
  have C30 : rcp h h24 11 62 8 := rcp_put C23 eh24 (by decide)
  exact V_vret rfl d_Ledger_copyFrom_67 ⟨rfl, ⟨hI25, f26, ⟨((kn_put eh24).trans tK.symm), C27, C28, C29, C30⟩⟩⟩
def S_Sights_copyX_0_3 : List (Nat × Option Nat) := [(12, some 4), (13, none), (14, none), (15, none), (16, none)]
abbrev q_Sights_copyX_0_3 (h : Hp) (t : Int32) (tZ : Int) : Option Value → Hp → Prop := pVd (fun h' => Inv h' ∧ fr S_Sights_copyX_0_3 h h' ∧ (h'.1 12 4 = h.1 63 4 ∧ rcp h h' 13 64 8 ∧ rcp h h' 14 65 8 ∧ rcp h h' 15 66 8 ∧ rcp h h' 16 67 8))
set_option maxRecDepth 100000 in
theorem c_Sights_copyX_0_3 (h : Hp) (hI : Inv h) (t : Int32) (tZ : Int) (tE : t.toInt = tZ) (tK : h.1 63 4 = t) : Ct y_Sights_copyFrom b_Sights_copyFrom 2 none 1 60 [.ref 12, .ref 63] h (q_Sights_copyX_0_3 h t tZ) := by
  refine ct_ow R_Sights [some (.ref 12), some (.ref 63)] rfl (by decide) rfl (Nat.le_of_ble_eq_true rfl) ?_
  have f0 : fr S_Sights_copyX_0_3 h h := fr_rf
  have g1 : 0 ≤ tZ ∧ tZ ≤ 8 := inv_at hI tE tK.symm rfl
  refine V_aload_n 1 d_Sights_copyFrom_0 rfl rfl ?_
  refine V_getR fa_Sights_9 sk_63 rfl d_Sights_copyFrom_1 ?_
  refine V_iconst 0 d_Sights_copyFrom_4 (by decide) ?_
  refine V_aload_n 0 d_Sights_copyFrom_5 rfl rfl ?_
  refine V_getR fa_Sights_9 sk_12 rfl d_Sights_copyFrom_6 ?_
  refine V_iconst 0 d_Sights_copyFrom_9 (by decide) ?_
  refine V_bipush 8 d_Sights_copyFrom_10 (by decide) ?_
  refine N_acopy sk_64 sk_13 tc_0 tc_0 tc_8 (by (first | decide +kernel | omega)) wa_Sights_24 wA1 wA2 wA3 d_Sights_copyFrom_12 (by decide) (Nat.le_of_ble_eq_true rfl) (fun h2 eh2 => ?_)
  have hI3 : Inv h2 := inv_cpy (n := 8) hI eh2 (fun _ => rfl)
  have f4 : fr S_Sights_copyX_0_3 h h2 := fr_row f0 eh2 (fun _ => rfl)
  have C5 : rcp h h2 13 64 8 := rcp_now f0 (fun _ => rfl) eh2
  refine V_aload_n 1 d_Sights_copyFrom_15 rfl rfl ?_
  refine V_getR fa_Sights_15 sk_63 rfl d_Sights_copyFrom_16 ?_
  refine V_iconst 0 d_Sights_copyFrom_19 (by decide) ?_
  refine V_aload_n 0 d_Sights_copyFrom_20 rfl rfl ?_
  refine V_getR fa_Sights_15 sk_12 rfl d_Sights_copyFrom_21 ?_
  refine V_iconst 0 d_Sights_copyFrom_24 (by decide) ?_
  refine V_bipush 8 d_Sights_copyFrom_25 (by decide) ?_
  refine N_acopy sk_65 sk_14 tc_0 tc_0 tc_8 (by (first | decide +kernel | omega)) wa_Sights_24 wA1 wA2 wA3 d_Sights_copyFrom_27 (by decide) (Nat.le_of_ble_eq_true rfl) (fun h6 eh6 => ?_)
  have hI7 : Inv h6 := inv_cpy (n := 8) hI3 eh6 (fun _ => rfl)
  have f8 : fr S_Sights_copyX_0_3 h h6 := fr_row f4 eh6 (fun _ => rfl)
  have C9 : rcp h h6 13 64 8 := rcp_row C5 eh6 (by decide)
  have C10 : rcp h h6 14 65 8 := rcp_now f4 (fun _ => rfl) eh6
  refine V_aload_n 1 d_Sights_copyFrom_30 rfl rfl ?_
  refine V_getR fa_Sights_18 sk_63 rfl d_Sights_copyFrom_31 ?_
  refine V_iconst 0 d_Sights_copyFrom_34 (by decide) ?_
  refine V_aload_n 0 d_Sights_copyFrom_35 rfl rfl ?_
  refine V_getR fa_Sights_18 sk_12 rfl d_Sights_copyFrom_36 ?_
  refine V_iconst 0 d_Sights_copyFrom_39 (by decide) ?_
  refine V_bipush 8 d_Sights_copyFrom_40 (by decide) ?_
  refine N_acopy sk_66 sk_15 tc_0 tc_0 tc_8 (by (first | decide +kernel | omega)) wa_Sights_24 wA1 wA2 wA3 d_Sights_copyFrom_42 (by decide) (Nat.le_of_ble_eq_true rfl) (fun h11 eh11 => ?_)
  have hI12 : Inv h11 := inv_cpy (n := 8) hI7 eh11 (fun _ => rfl)
  have f13 : fr S_Sights_copyX_0_3 h h11 := fr_row f8 eh11 (fun _ => rfl)
  have C14 : rcp h h11 13 64 8 := rcp_row C9 eh11 (by decide)
  have C15 : rcp h h11 14 65 8 := rcp_row C10 eh11 (by decide)
  have C16 : rcp h h11 15 66 8 := rcp_now f8 (fun _ => rfl) eh11
  refine V_aload_n 1 d_Sights_copyFrom_45 rfl rfl ?_
  refine V_getR fa_Sights_21 sk_63 rfl d_Sights_copyFrom_46 ?_
  refine V_iconst 0 d_Sights_copyFrom_49 (by decide) ?_
  refine V_aload_n 0 d_Sights_copyFrom_50 rfl rfl ?_
  refine V_getR fa_Sights_21 sk_12 rfl d_Sights_copyFrom_51 ?_
  refine V_iconst 0 d_Sights_copyFrom_54 (by decide) ?_
  refine V_bipush 8 d_Sights_copyFrom_55 (by decide) ?_
  refine N_acopy sk_67 sk_16 tc_0 tc_0 tc_8 (by (first | decide +kernel | omega)) wa_Sights_24 wA1 wA2 wA3 d_Sights_copyFrom_57 (by decide) (Nat.le_of_ble_eq_true rfl) (fun h17 eh17 => ?_)
  have hI18 : Inv h17 := inv_cpy (n := 8) hI12 eh17 (fun _ => rfl)
  have f19 : fr S_Sights_copyX_0_3 h h17 := fr_row f13 eh17 (fun _ => rfl)
  have C20 : rcp h h17 13 64 8 := rcp_row C14 eh17 (by decide)
  have C21 : rcp h h17 14 65 8 := rcp_row C15 eh17 (by decide)
  have C22 : rcp h h17 15 66 8 := rcp_row C16 eh17 (by decide)
  have C23 : rcp h h17 16 67 8 := rcp_now f13 (fun _ => rfl) eh17
  refine V_aload_n 0 d_Sights_copyFrom_60 rfl rfl ?_
  refine V_aload_n 1 d_Sights_copyFrom_61 rfl rfl ?_
  refine N_getK fa_Sights_30 sk_63 rfl d_Sights_copyFrom_62 (kn_row eh17 (kn_row eh11 (kn_row eh6 (kn_row eh2 tK (by decide)) (by decide)) (by decide)) (by decide)) ?_
  refine N_putI fp_Sights_30 sk_12 rfl d_Sights_copyFrom_65 (fun h24 eh24 => ?_)
  have hI25 : Inv h24 := inv_put (lo := 0) (hi := 8) hI18 eh24 rfl tE (by (first | decide +kernel | omega))
  have f26 : fr S_Sights_copyX_0_3 h h24 := fr_put f19 eh24 rfl
  have C27 : rcp h h24 13 64 8 := rcp_put C20 eh24 (by decide)
  have C28 : rcp h h24 14 65 8 := rcp_put C21 eh24 (by decide)
  have C29 : rcp h h24 15 66 8 := rcp_put C22 eh24 (by decide)
  have C30 : rcp h h24 16 67 8 := rcp_put C23 eh24 (by decide)
  exact V_vret rfl d_Sights_copyFrom_68 ⟨rfl, ⟨hI25, f26, ⟨((kn_put eh24).trans tK.symm), C27, C28, C29, C30⟩⟩⟩
def S_County_copyX_0_3 : List (Nat × Option Nat) := [(0, some 3), (0, some 4), (1, none), (2, none), (3, none), (4, none), (5, none), (6, none), (7, some 4), (8, none), (9, none), (10, none), (11, none), (12, some 4), (13, none), (14, none), (15, none), (16, none)]
abbrev q_County_copyX_0_3 (h : Hp) (n : Int32) (nZ : Int) (m : Int32) (mZ : Int) : Option Value → Hp → Prop := pVd (fun h' => Inv h' ∧ fr S_County_copyX_0_3 h h' ∧ (cpy h h' 0 51))
set_option maxRecDepth 100000 in
theorem c_County_copyX_0_3 (h : Hp) (hI : Inv h) (n : Int32) (nZ : Int) (nE : n.toInt = nZ) (nK : h.1 51 3 = n) (m : Int32) (mZ : Int) (mE : m.toInt = mZ) (mK : h.1 51 4 = m) : Ct y_County_copyFrom b_County_copyFrom 2 none 2 81 [.ref 0, .ref 51] h (q_County_copyX_0_3 h n nZ m mZ) := by
  refine ct_ow R_County [some (.ref 0), some (.ref 51)] rfl (by decide) rfl (Nat.le_of_ble_eq_true rfl) ?_
  have f0 : fr S_County_copyX_0_3 h h := fr_rf
  refine V_aload_n 0 d_County_copyFrom_0 rfl rfl ?_
  refine V_getR fa_County_12 sk_0 rfl d_County_copyFrom_1 ?_
  refine V_aload_n 1 d_County_copyFrom_4 rfl rfl ?_
  refine V_getR fa_County_12 sk_51 rfl d_County_copyFrom_5 ?_
  obtain ⟨z1, z1Z, z1E, z1e⟩ : ∃ (y : Int32) (Y : Int), y.toInt = Y ∧ y = h.1 52 0 := ⟨_, _, rfl, rfl⟩
  have g2 : 2 ≤ z1Z ∧ z1Z ≤ 4 := inv_at hI z1E z1e rfl
  obtain ⟨z3, z3Z, z3E, z3e⟩ : ∃ (y : Int32) (Y : Int), y.toInt = Y ∧ y = h.1 52 1 := ⟨_, _, rfl, rfl⟩
  have g4 : 2 ≤ z3Z ∧ z3Z ≤ 4 := inv_at hI z3E z3e rfl
  obtain ⟨z5, z5Z, z5E, z5e⟩ : ∃ (y : Int32) (Y : Int), y.toInt = Y ∧ y = h.1 52 2 := ⟨_, _, rfl, rfl⟩
  obtain ⟨z6, z6Z, z6E, z6e⟩ : ∃ (y : Int32) (Y : Int), y.toInt = Y ∧ y = h.1 52 3 := ⟨_, _, rfl, rfl⟩
  refine N_callVV [.ref 52] [] cv_County_47 sk_1 rfl d_County_copyFrom_8 rfl (Nat.le_of_ble_eq_true rfl) (by decide) (by decide) (c_Land_copyX_0_3 h hI z1 z1Z z1E z1e.symm z3 z3Z z3E z3e.symm z5 z5Z z5E z5e.symm z6 z6Z z6E z6e.symm) (fun h8 p9 => ?_)
  obtain ⟨hI10, fh8, p9⟩ := p9
  have f11 : fr S_County_copyX_0_3 h h8 := fr_call f0 fh8 rfl
  have qL := p9
  refine V_aload_n 0 d_County_copyFrom_11 rfl rfl ?_
  refine V_getR fa_County_21 sk_0 rfl d_County_copyFrom_12 ?_
  refine V_aload_n 1 d_County_copyFrom_15 rfl rfl ?_
  refine V_getR fa_County_21 sk_51 rfl d_County_copyFrom_16 ?_
  obtain ⟨z12, z12Z, z12E, z12e⟩ : ∃ (y : Int32) (Y : Int), y.toInt = Y ∧ y = h8.1 58 4 := ⟨_, _, rfl, rfl⟩
  have g13 : 0 ≤ z12Z ∧ z12Z ≤ 8 := inv_at hI10 z12E z12e rfl
  refine N_callVV [.ref 58] [] cv_County_51 sk_7 rfl d_County_copyFrom_19 rfl (Nat.le_of_ble_eq_true rfl) (by decide) (by decide) (c_Ledger_copyX_0_3 h8 hI10 z12 z12Z z12E z12e.symm) (fun h15 p16 => ?_)
  obtain ⟨hI17, fh15, p16⟩ := p16
  have f18 : fr S_County_copyX_0_3 h h15 := fr_call f11 fh15 rfl
  have qG := p16
  refine V_aload_n 0 d_County_copyFrom_22 rfl rfl ?_
  refine V_getR fa_County_28 sk_0 rfl d_County_copyFrom_23 ?_
  refine V_aload_n 1 d_County_copyFrom_26 rfl rfl ?_
  refine V_getR fa_County_28 sk_51 rfl d_County_copyFrom_27 ?_
  obtain ⟨z19, z19Z, z19E, z19e⟩ : ∃ (y : Int32) (Y : Int), y.toInt = Y ∧ y = h15.1 63 4 := ⟨_, _, rfl, rfl⟩
  have g20 : 0 ≤ z19Z ∧ z19Z ≤ 8 := inv_at hI17 z19E z19e rfl
  refine N_callVV [.ref 63] [] cv_County_54 sk_12 rfl d_County_copyFrom_30 rfl (Nat.le_of_ble_eq_true rfl) (by decide) (by decide) (c_Sights_copyX_0_3 h15 hI17 z19 z19Z z19E z19e.symm) (fun h22 p23 => ?_)
  obtain ⟨hI24, fh22, p23⟩ := p23
  have f25 : fr S_County_copyX_0_3 h h22 := fr_call f18 fh22 rfl
  have qS := p23
  refine V_aload_n 0 d_County_copyFrom_33 rfl rfl ?_
  refine V_aload_n 1 d_County_copyFrom_34 rfl rfl ?_
  refine N_getK fa_County_41 sk_51 rfl d_County_copyFrom_35 (kn_call fh22 (kn_call fh15 (kn_call fh8 nK rfl) rfl) rfl) ?_
  refine N_putI fp_County_41 sk_0 rfl d_County_copyFrom_38 (fun h26 eh26 => ?_)
  have hI27 : Inv h26 := inv_full hI24 eh26 rfl
  have f28 : fr S_County_copyX_0_3 h h26 := fr_put f25 eh26 rfl
  refine V_aload_n 0 d_County_copyFrom_41 rfl rfl ?_
  refine V_aload_n 1 d_County_copyFrom_42 rfl rfl ?_
  refine N_getK fa_County_44 sk_51 rfl d_County_copyFrom_43 (kn_ne eh26 (kn_call fh22 (kn_call fh15 (kn_call fh8 mK rfl) rfl) rfl) (by decide)) ?_
  refine N_putI fp_County_44 sk_0 rfl d_County_copyFrom_46 (fun h29 eh29 => ?_)
  have hI30 : Inv h29 := inv_full hI27 eh29 rfl
  have f31 : fr S_County_copyX_0_3 h h29 := fr_put f28 eh29 rfl
  exact V_vret rfl d_County_copyFrom_49 ⟨rfl, ⟨hI30, f31, (cpy_of (a := 0) (b := 51) qL fh15 qG fh22 qS fh8 eh26 eh29 nK mK rfl rfl rfl rfl)⟩⟩
def S_Land_copyX_0_4 : List (Nat × Option Nat) := [(1, none), (2, none), (3, none), (4, none), (5, none), (6, none)]
abbrev q_Land_copyX_0_4 (h : Hp) (w : Int32) (wZ : Int) (g : Int32) (gZ : Int) (x : Int32) (xZ : Int) (y : Int32) (yZ : Int) : Option Value → Hp → Prop := pVd (fun h' => Inv h' ∧ fr S_Land_copyX_0_4 h h' ∧ (h'.1 1 0 = h.1 69 0 ∧ h'.1 1 1 = h.1 69 1 ∧ h'.1 1 2 = h.1 69 2 ∧ h'.1 1 3 = h.1 69 3 ∧ rcp h h' 2 70 16 ∧ rcp h h' 3 71 16 ∧ rcp h h' 4 72 16 ∧ rcp h h' 5 73 16 ∧ rcp h h' 6 74 16))
set_option maxRecDepth 100000 in
theorem c_Land_copyX_0_4 (h : Hp) (hI : Inv h) (w : Int32) (wZ : Int) (wE : w.toInt = wZ) (wK : h.1 69 0 = w) (g : Int32) (gZ : Int) (gE : g.toInt = gZ) (gK : h.1 69 1 = g) (x : Int32) (xZ : Int) (xE : x.toInt = xZ) (xK : h.1 69 2 = x) (y : Int32) (yZ : Int) (yE : y.toInt = yZ) (yK : h.1 69 3 = y) : Ct y_Land_copyFrom b_Land_copyFrom 2 none 1 60 [.ref 1, .ref 69] h (q_Land_copyX_0_4 h w wZ g gZ x xZ y yZ) := by
  refine ct_ow R_Land [some (.ref 1), some (.ref 69)] rfl (by decide) rfl (Nat.le_of_ble_eq_true rfl) ?_
  have f0 : fr S_Land_copyX_0_4 h h := fr_rf
  have g1 : 2 ≤ wZ ∧ wZ ≤ 4 := inv_at hI wE wK.symm rfl
  have g2 : 2 ≤ gZ ∧ gZ ≤ 4 := inv_at hI gE gK.symm rfl
  refine V_aload_n 0 d_Land_copyFrom_0 rfl rfl ?_
  refine V_aload_n 1 d_Land_copyFrom_1 rfl rfl ?_
  refine N_getK fa_Land_27 sk_69 rfl d_Land_copyFrom_2 wK ?_
  refine N_putI fp_Land_27 sk_1 rfl d_Land_copyFrom_5 (fun h3 eh3 => ?_)
  have hI4 : Inv h3 := inv_put (lo := 2) (hi := 4) hI eh3 rfl wE (by (first | decide +kernel | omega))
  have f5 : fr S_Land_copyX_0_4 h h3 := fr_put f0 eh3 rfl
  refine V_aload_n 0 d_Land_copyFrom_8 rfl rfl ?_
  refine V_aload_n 1 d_Land_copyFrom_9 rfl rfl ?_
  refine N_getK fa_Land_31 sk_69 rfl d_Land_copyFrom_10 (kn_ne eh3 gK (by decide)) ?_
  refine N_putI fp_Land_31 sk_1 rfl d_Land_copyFrom_13 (fun h6 eh6 => ?_)
  have hI7 : Inv h6 := inv_put (lo := 2) (hi := 4) hI4 eh6 rfl gE (by (first | decide +kernel | omega))
  have f8 : fr S_Land_copyX_0_4 h h6 := fr_put f5 eh6 rfl
  refine V_aload_n 0 d_Land_copyFrom_16 rfl rfl ?_
  refine V_aload_n 1 d_Land_copyFrom_17 rfl rfl ?_
  refine N_getK fa_Land_34 sk_69 rfl d_Land_copyFrom_18 (kn_ne eh6 (kn_ne eh3 xK (by decide)) (by decide)) ?_
  refine N_putI fp_Land_34 sk_1 rfl d_Land_copyFrom_21 (fun h9 eh9 => ?_)
  have hI10 : Inv h9 := inv_full hI7 eh9 rfl
  have f11 : fr S_Land_copyX_0_4 h h9 := fr_put f8 eh9 rfl
  refine V_aload_n 0 d_Land_copyFrom_24 rfl rfl ?_
  refine V_aload_n 1 d_Land_copyFrom_25 rfl rfl ?_
  refine N_getK fa_Land_37 sk_69 rfl d_Land_copyFrom_26 (kn_ne eh9 (kn_ne eh6 (kn_ne eh3 yK (by decide)) (by decide)) (by decide)) ?_
  refine N_putI fp_Land_37 sk_1 rfl d_Land_copyFrom_29 (fun h12 eh12 => ?_)
  have hI13 : Inv h12 := inv_full hI10 eh12 rfl
  have f14 : fr S_Land_copyX_0_4 h h12 := fr_put f11 eh12 rfl
  refine V_aload_n 1 d_Land_copyFrom_32 rfl rfl ?_
  refine V_getR fa_Land_9 sk_69 rfl d_Land_copyFrom_33 ?_
  refine V_iconst 0 d_Land_copyFrom_36 (by decide) ?_
  refine V_aload_n 0 d_Land_copyFrom_37 rfl rfl ?_
  refine V_getR fa_Land_9 sk_1 rfl d_Land_copyFrom_38 ?_
  refine V_iconst 0 d_Land_copyFrom_41 (by decide) ?_
  refine V_bipush 16 d_Land_copyFrom_42 (by decide) ?_
  refine N_acopy sk_70 sk_2 tc_0 tc_0 tc_16 (by (first | decide +kernel | omega)) wa_Land_46 wA1 wA2 wA3 d_Land_copyFrom_44 (by decide) (Nat.le_of_ble_eq_true rfl) (fun h15 eh15 => ?_)
  have hI16 : Inv h15 := inv_cpy (n := 16) hI13 eh15 (fun _ => rfl)
  have f17 : fr S_Land_copyX_0_4 h h15 := fr_row f14 eh15 (fun _ => rfl)
  have C18 : rcp h h15 2 70 16 := rcp_now f14 (fun _ => rfl) eh15
  refine V_aload_n 1 d_Land_copyFrom_47 rfl rfl ?_
  refine V_getR fa_Land_15 sk_69 rfl d_Land_copyFrom_48 ?_
  refine V_iconst 0 d_Land_copyFrom_51 (by decide) ?_
  refine V_aload_n 0 d_Land_copyFrom_52 rfl rfl ?_
  refine V_getR fa_Land_15 sk_1 rfl d_Land_copyFrom_53 ?_
  refine V_iconst 0 d_Land_copyFrom_56 (by decide) ?_
  refine V_bipush 16 d_Land_copyFrom_57 (by decide) ?_
  refine N_acopy sk_71 sk_3 tc_0 tc_0 tc_16 (by (first | decide +kernel | omega)) wa_Land_46 wA1 wA2 wA3 d_Land_copyFrom_59 (by decide) (Nat.le_of_ble_eq_true rfl) (fun h19 eh19 => ?_)
  have hI20 : Inv h19 := inv_cpy (n := 16) hI16 eh19 (fun _ => rfl)
  have f21 : fr S_Land_copyX_0_4 h h19 := fr_row f17 eh19 (fun _ => rfl)
  have C22 : rcp h h19 2 70 16 := rcp_row C18 eh19 (by decide)
  have C23 : rcp h h19 3 71 16 := rcp_now f17 (fun _ => rfl) eh19
  refine V_aload_n 1 d_Land_copyFrom_62 rfl rfl ?_
  refine V_getR fa_Land_18 sk_69 rfl d_Land_copyFrom_63 ?_
  refine V_iconst 0 d_Land_copyFrom_66 (by decide) ?_
  refine V_aload_n 0 d_Land_copyFrom_67 rfl rfl ?_
  refine V_getR fa_Land_18 sk_1 rfl d_Land_copyFrom_68 ?_
  refine V_iconst 0 d_Land_copyFrom_71 (by decide) ?_
  refine V_bipush 16 d_Land_copyFrom_72 (by decide) ?_
  refine N_acopy sk_72 sk_4 tc_0 tc_0 tc_16 (by (first | decide +kernel | omega)) wa_Land_46 wA1 wA2 wA3 d_Land_copyFrom_74 (by decide) (Nat.le_of_ble_eq_true rfl) (fun h24 eh24 => ?_)
  have hI25 : Inv h24 := inv_cpy (n := 16) hI20 eh24 (fun _ => rfl)
  have f26 : fr S_Land_copyX_0_4 h h24 := fr_row f21 eh24 (fun _ => rfl)
  have C27 : rcp h h24 2 70 16 := rcp_row C22 eh24 (by decide)
  have C28 : rcp h h24 3 71 16 := rcp_row C23 eh24 (by decide)
  have C29 : rcp h h24 4 72 16 := rcp_now f21 (fun _ => rfl) eh24
  refine V_aload_n 1 d_Land_copyFrom_77 rfl rfl ?_
  refine V_getR fa_Land_21 sk_69 rfl d_Land_copyFrom_78 ?_
  refine V_iconst 0 d_Land_copyFrom_81 (by decide) ?_
  refine V_aload_n 0 d_Land_copyFrom_82 rfl rfl ?_
  refine V_getR fa_Land_21 sk_1 rfl d_Land_copyFrom_83 ?_
  refine V_iconst 0 d_Land_copyFrom_86 (by decide) ?_
  refine V_bipush 16 d_Land_copyFrom_87 (by decide) ?_
  refine N_acopy sk_73 sk_5 tc_0 tc_0 tc_16 (by (first | decide +kernel | omega)) wa_Land_46 wA1 wA2 wA3 d_Land_copyFrom_89 (by decide) (Nat.le_of_ble_eq_true rfl) (fun h30 eh30 => ?_)
  have hI31 : Inv h30 := inv_cpy (n := 16) hI25 eh30 (fun _ => rfl)
  have f32 : fr S_Land_copyX_0_4 h h30 := fr_row f26 eh30 (fun _ => rfl)
  have C33 : rcp h h30 2 70 16 := rcp_row C27 eh30 (by decide)
  have C34 : rcp h h30 3 71 16 := rcp_row C28 eh30 (by decide)
  have C35 : rcp h h30 4 72 16 := rcp_row C29 eh30 (by decide)
  have C36 : rcp h h30 5 73 16 := rcp_now f26 (fun _ => rfl) eh30
  refine V_aload_n 1 d_Land_copyFrom_92 rfl rfl ?_
  refine V_getR fa_Land_24 sk_69 rfl d_Land_copyFrom_93 ?_
  refine V_iconst 0 d_Land_copyFrom_96 (by decide) ?_
  refine V_aload_n 0 d_Land_copyFrom_97 rfl rfl ?_
  refine V_getR fa_Land_24 sk_1 rfl d_Land_copyFrom_98 ?_
  refine V_iconst 0 d_Land_copyFrom_101 (by decide) ?_
  refine V_bipush 16 d_Land_copyFrom_102 (by decide) ?_
  refine N_acopy sk_74 sk_6 tc_0 tc_0 tc_16 (by (first | decide +kernel | omega)) wa_Land_46 wA1 wA2 wA3 d_Land_copyFrom_104 (by decide) (Nat.le_of_ble_eq_true rfl) (fun h37 eh37 => ?_)
  have hI38 : Inv h37 := inv_cpy (n := 16) hI31 eh37 (fun _ => rfl)
  have f39 : fr S_Land_copyX_0_4 h h37 := fr_row f32 eh37 (fun _ => rfl)
  have C40 : rcp h h37 2 70 16 := rcp_row C33 eh37 (by decide)
  have C41 : rcp h h37 3 71 16 := rcp_row C34 eh37 (by decide)
  have C42 : rcp h h37 4 72 16 := rcp_row C35 eh37 (by decide)
  have C43 : rcp h h37 5 73 16 := rcp_row C36 eh37 (by decide)
  have C44 : rcp h h37 6 74 16 := rcp_now f32 (fun _ => rfl) eh37
  exact V_vret rfl d_Land_copyFrom_107 ⟨rfl, ⟨hI38, f39, ⟨((kn_row eh37 (kn_row eh30 (kn_row eh24 (kn_row eh19 (kn_row eh15 (kn_nei eh12 (kn_nei eh9 (kn_nei eh6 (kn_put eh3) (by decide)) (by decide)) (by decide)) (by decide)) (by decide)) (by decide)) (by decide)) (by decide)).trans wK.symm), ((kn_row eh37 (kn_row eh30 (kn_row eh24 (kn_row eh19 (kn_row eh15 (kn_nei eh12 (kn_nei eh9 (kn_put eh6) (by decide)) (by decide)) (by decide)) (by decide)) (by decide)) (by decide)) (by decide)).trans gK.symm), ((kn_row eh37 (kn_row eh30 (kn_row eh24 (kn_row eh19 (kn_row eh15 (kn_nei eh12 (kn_put eh9) (by decide)) (by decide)) (by decide)) (by decide)) (by decide)) (by decide)).trans xK.symm), ((kn_row eh37 (kn_row eh30 (kn_row eh24 (kn_row eh19 (kn_row eh15 (kn_put eh12) (by decide)) (by decide)) (by decide)) (by decide)) (by decide)).trans yK.symm), C40, C41, C42, C43, C44⟩⟩⟩
def S_Ledger_copyX_0_4 : List (Nat × Option Nat) := [(7, some 4), (8, none), (9, none), (10, none), (11, none)]
abbrev q_Ledger_copyX_0_4 (h : Hp) (t : Int32) (tZ : Int) : Option Value → Hp → Prop := pVd (fun h' => Inv h' ∧ fr S_Ledger_copyX_0_4 h h' ∧ (h'.1 7 4 = h.1 75 4 ∧ rcp h h' 8 76 4 ∧ rcp h h' 9 77 8 ∧ rcp h h' 10 78 8 ∧ rcp h h' 11 79 8))
set_option maxRecDepth 100000 in
theorem c_Ledger_copyX_0_4 (h : Hp) (hI : Inv h) (t : Int32) (tZ : Int) (tE : t.toInt = tZ) (tK : h.1 75 4 = t) : Ct y_Ledger_copyFrom b_Ledger_copyFrom 2 none 1 60 [.ref 7, .ref 75] h (q_Ledger_copyX_0_4 h t tZ) := by
  refine ct_ow R_Ledger [some (.ref 7), some (.ref 75)] rfl (by decide) rfl (Nat.le_of_ble_eq_true rfl) ?_
  have f0 : fr S_Ledger_copyX_0_4 h h := fr_rf
  have g1 : 0 ≤ tZ ∧ tZ ≤ 8 := inv_at hI tE tK.symm rfl
  refine V_aload_n 1 d_Ledger_copyFrom_0 rfl rfl ?_
  refine V_getR fa_Ledger_9 sk_75 rfl d_Ledger_copyFrom_1 ?_
  refine V_iconst 0 d_Ledger_copyFrom_4 (by decide) ?_
  refine V_aload_n 0 d_Ledger_copyFrom_5 rfl rfl ?_
  refine V_getR fa_Ledger_9 sk_7 rfl d_Ledger_copyFrom_6 ?_
  refine V_iconst 0 d_Ledger_copyFrom_9 (by decide) ?_
  refine V_iconst 4 d_Ledger_copyFrom_10 (by decide) ?_
  refine N_acopy sk_76 sk_8 tc_0 tc_0 tc_4 (by (first | decide +kernel | omega)) wa_Ledger_34 wA1 wA2 wA3 d_Ledger_copyFrom_11 (by decide) (Nat.le_of_ble_eq_true rfl) (fun h2 eh2 => ?_)
  have hI3 : Inv h2 := inv_cpy (n := 4) hI eh2 (fun _ => rfl)
  have f4 : fr S_Ledger_copyX_0_4 h h2 := fr_row f0 eh2 (fun _ => rfl)
  have C5 : rcp h h2 8 76 4 := rcp_now f0 (fun _ => rfl) eh2
  refine V_aload_n 1 d_Ledger_copyFrom_14 rfl rfl ?_
  refine V_getR fa_Ledger_15 sk_75 rfl d_Ledger_copyFrom_15 ?_
  refine V_iconst 0 d_Ledger_copyFrom_18 (by decide) ?_
  refine V_aload_n 0 d_Ledger_copyFrom_19 rfl rfl ?_
  refine V_getR fa_Ledger_15 sk_7 rfl d_Ledger_copyFrom_20 ?_
  refine V_iconst 0 d_Ledger_copyFrom_23 (by decide) ?_
  refine V_bipush 8 d_Ledger_copyFrom_24 (by decide) ?_
  refine N_acopy sk_77 sk_9 tc_0 tc_0 tc_8 (by (first | decide +kernel | omega)) wa_Ledger_34 wA1 wA2 wA3 d_Ledger_copyFrom_26 (by decide) (Nat.le_of_ble_eq_true rfl) (fun h6 eh6 => ?_)
  have hI7 : Inv h6 := inv_cpy (n := 8) hI3 eh6 (fun _ => rfl)
  have f8 : fr S_Ledger_copyX_0_4 h h6 := fr_row f4 eh6 (fun _ => rfl)
  have C9 : rcp h h6 8 76 4 := rcp_row C5 eh6 (by decide)
  have C10 : rcp h h6 9 77 8 := rcp_now f4 (fun _ => rfl) eh6
  refine V_aload_n 1 d_Ledger_copyFrom_29 rfl rfl ?_
  refine V_getR fa_Ledger_18 sk_75 rfl d_Ledger_copyFrom_30 ?_
  refine V_iconst 0 d_Ledger_copyFrom_33 (by decide) ?_
  refine V_aload_n 0 d_Ledger_copyFrom_34 rfl rfl ?_
  refine V_getR fa_Ledger_18 sk_7 rfl d_Ledger_copyFrom_35 ?_
  refine V_iconst 0 d_Ledger_copyFrom_38 (by decide) ?_
  refine V_bipush 8 d_Ledger_copyFrom_39 (by decide) ?_
  refine N_acopy sk_78 sk_10 tc_0 tc_0 tc_8 (by (first | decide +kernel | omega)) wa_Ledger_34 wA1 wA2 wA3 d_Ledger_copyFrom_41 (by decide) (Nat.le_of_ble_eq_true rfl) (fun h11 eh11 => ?_)
  have hI12 : Inv h11 := inv_cpy (n := 8) hI7 eh11 (fun _ => rfl)
  have f13 : fr S_Ledger_copyX_0_4 h h11 := fr_row f8 eh11 (fun _ => rfl)
  have C14 : rcp h h11 8 76 4 := rcp_row C9 eh11 (by decide)
  have C15 : rcp h h11 9 77 8 := rcp_row C10 eh11 (by decide)
  have C16 : rcp h h11 10 78 8 := rcp_now f8 (fun _ => rfl) eh11
  refine V_aload_n 1 d_Ledger_copyFrom_44 rfl rfl ?_
  refine V_getR fa_Ledger_21 sk_75 rfl d_Ledger_copyFrom_45 ?_
  refine V_iconst 0 d_Ledger_copyFrom_48 (by decide) ?_
  refine V_aload_n 0 d_Ledger_copyFrom_49 rfl rfl ?_
  refine V_getR fa_Ledger_21 sk_7 rfl d_Ledger_copyFrom_50 ?_
  refine V_iconst 0 d_Ledger_copyFrom_53 (by decide) ?_
  refine V_bipush 8 d_Ledger_copyFrom_54 (by decide) ?_
  refine N_acopy sk_79 sk_11 tc_0 tc_0 tc_8 (by (first | decide +kernel | omega)) wa_Ledger_34 wA1 wA2 wA3 d_Ledger_copyFrom_56 (by decide) (Nat.le_of_ble_eq_true rfl) (fun h17 eh17 => ?_)
  have hI18 : Inv h17 := inv_cpy (n := 8) hI12 eh17 (fun _ => rfl)
  have f19 : fr S_Ledger_copyX_0_4 h h17 := fr_row f13 eh17 (fun _ => rfl)
  have C20 : rcp h h17 8 76 4 := rcp_row C14 eh17 (by decide)
  have C21 : rcp h h17 9 77 8 := rcp_row C15 eh17 (by decide)
  have C22 : rcp h h17 10 78 8 := rcp_row C16 eh17 (by decide)
  have C23 : rcp h h17 11 79 8 := rcp_now f13 (fun _ => rfl) eh17
  refine V_aload_n 0 d_Ledger_copyFrom_59 rfl rfl ?_
  refine V_aload_n 1 d_Ledger_copyFrom_60 rfl rfl ?_
  refine N_getK fa_Ledger_30 sk_75 rfl d_Ledger_copyFrom_61 (kn_row eh17 (kn_row eh11 (kn_row eh6 (kn_row eh2 tK (by decide)) (by decide)) (by decide)) (by decide)) ?_
  refine N_putI fp_Ledger_30 sk_7 rfl d_Ledger_copyFrom_64 (fun h24 eh24 => ?_)
  have hI25 : Inv h24 := inv_put (lo := 0) (hi := 8) hI18 eh24 rfl tE (by (first | decide +kernel | omega))
  have f26 : fr S_Ledger_copyX_0_4 h h24 := fr_put f19 eh24 rfl
  have C27 : rcp h h24 8 76 4 := rcp_put C20 eh24 (by decide)
  have C28 : rcp h h24 9 77 8 := rcp_put C21 eh24 (by decide)
  have C29 : rcp h h24 10 78 8 := rcp_put C22 eh24 (by decide)
  have C30 : rcp h h24 11 79 8 := rcp_put C23 eh24 (by decide)
  exact V_vret rfl d_Ledger_copyFrom_67 ⟨rfl, ⟨hI25, f26, ⟨((kn_put eh24).trans tK.symm), C27, C28, C29, C30⟩⟩⟩
def S_Sights_copyX_0_4 : List (Nat × Option Nat) := [(12, some 4), (13, none), (14, none), (15, none), (16, none)]
abbrev q_Sights_copyX_0_4 (h : Hp) (t : Int32) (tZ : Int) : Option Value → Hp → Prop := pVd (fun h' => Inv h' ∧ fr S_Sights_copyX_0_4 h h' ∧ (h'.1 12 4 = h.1 80 4 ∧ rcp h h' 13 81 8 ∧ rcp h h' 14 82 8 ∧ rcp h h' 15 83 8 ∧ rcp h h' 16 84 8))
set_option maxRecDepth 100000 in
theorem c_Sights_copyX_0_4 (h : Hp) (hI : Inv h) (t : Int32) (tZ : Int) (tE : t.toInt = tZ) (tK : h.1 80 4 = t) : Ct y_Sights_copyFrom b_Sights_copyFrom 2 none 1 60 [.ref 12, .ref 80] h (q_Sights_copyX_0_4 h t tZ) := by
  refine ct_ow R_Sights [some (.ref 12), some (.ref 80)] rfl (by decide) rfl (Nat.le_of_ble_eq_true rfl) ?_
  have f0 : fr S_Sights_copyX_0_4 h h := fr_rf
  have g1 : 0 ≤ tZ ∧ tZ ≤ 8 := inv_at hI tE tK.symm rfl
  refine V_aload_n 1 d_Sights_copyFrom_0 rfl rfl ?_
  refine V_getR fa_Sights_9 sk_80 rfl d_Sights_copyFrom_1 ?_
  refine V_iconst 0 d_Sights_copyFrom_4 (by decide) ?_
  refine V_aload_n 0 d_Sights_copyFrom_5 rfl rfl ?_
  refine V_getR fa_Sights_9 sk_12 rfl d_Sights_copyFrom_6 ?_
  refine V_iconst 0 d_Sights_copyFrom_9 (by decide) ?_
  refine V_bipush 8 d_Sights_copyFrom_10 (by decide) ?_
  refine N_acopy sk_81 sk_13 tc_0 tc_0 tc_8 (by (first | decide +kernel | omega)) wa_Sights_24 wA1 wA2 wA3 d_Sights_copyFrom_12 (by decide) (Nat.le_of_ble_eq_true rfl) (fun h2 eh2 => ?_)
  have hI3 : Inv h2 := inv_cpy (n := 8) hI eh2 (fun _ => rfl)
  have f4 : fr S_Sights_copyX_0_4 h h2 := fr_row f0 eh2 (fun _ => rfl)
  have C5 : rcp h h2 13 81 8 := rcp_now f0 (fun _ => rfl) eh2
  refine V_aload_n 1 d_Sights_copyFrom_15 rfl rfl ?_
  refine V_getR fa_Sights_15 sk_80 rfl d_Sights_copyFrom_16 ?_
  refine V_iconst 0 d_Sights_copyFrom_19 (by decide) ?_
  refine V_aload_n 0 d_Sights_copyFrom_20 rfl rfl ?_
  refine V_getR fa_Sights_15 sk_12 rfl d_Sights_copyFrom_21 ?_
  refine V_iconst 0 d_Sights_copyFrom_24 (by decide) ?_
  refine V_bipush 8 d_Sights_copyFrom_25 (by decide) ?_
  refine N_acopy sk_82 sk_14 tc_0 tc_0 tc_8 (by (first | decide +kernel | omega)) wa_Sights_24 wA1 wA2 wA3 d_Sights_copyFrom_27 (by decide) (Nat.le_of_ble_eq_true rfl) (fun h6 eh6 => ?_)
  have hI7 : Inv h6 := inv_cpy (n := 8) hI3 eh6 (fun _ => rfl)
  have f8 : fr S_Sights_copyX_0_4 h h6 := fr_row f4 eh6 (fun _ => rfl)
  have C9 : rcp h h6 13 81 8 := rcp_row C5 eh6 (by decide)
  have C10 : rcp h h6 14 82 8 := rcp_now f4 (fun _ => rfl) eh6
  refine V_aload_n 1 d_Sights_copyFrom_30 rfl rfl ?_
  refine V_getR fa_Sights_18 sk_80 rfl d_Sights_copyFrom_31 ?_
  refine V_iconst 0 d_Sights_copyFrom_34 (by decide) ?_
  refine V_aload_n 0 d_Sights_copyFrom_35 rfl rfl ?_
  refine V_getR fa_Sights_18 sk_12 rfl d_Sights_copyFrom_36 ?_
  refine V_iconst 0 d_Sights_copyFrom_39 (by decide) ?_
  refine V_bipush 8 d_Sights_copyFrom_40 (by decide) ?_
  refine N_acopy sk_83 sk_15 tc_0 tc_0 tc_8 (by (first | decide +kernel | omega)) wa_Sights_24 wA1 wA2 wA3 d_Sights_copyFrom_42 (by decide) (Nat.le_of_ble_eq_true rfl) (fun h11 eh11 => ?_)
  have hI12 : Inv h11 := inv_cpy (n := 8) hI7 eh11 (fun _ => rfl)
  have f13 : fr S_Sights_copyX_0_4 h h11 := fr_row f8 eh11 (fun _ => rfl)
  have C14 : rcp h h11 13 81 8 := rcp_row C9 eh11 (by decide)
  have C15 : rcp h h11 14 82 8 := rcp_row C10 eh11 (by decide)
  have C16 : rcp h h11 15 83 8 := rcp_now f8 (fun _ => rfl) eh11
  refine V_aload_n 1 d_Sights_copyFrom_45 rfl rfl ?_
  refine V_getR fa_Sights_21 sk_80 rfl d_Sights_copyFrom_46 ?_
  refine V_iconst 0 d_Sights_copyFrom_49 (by decide) ?_
  refine V_aload_n 0 d_Sights_copyFrom_50 rfl rfl ?_
  refine V_getR fa_Sights_21 sk_12 rfl d_Sights_copyFrom_51 ?_
  refine V_iconst 0 d_Sights_copyFrom_54 (by decide) ?_
  refine V_bipush 8 d_Sights_copyFrom_55 (by decide) ?_
  refine N_acopy sk_84 sk_16 tc_0 tc_0 tc_8 (by (first | decide +kernel | omega)) wa_Sights_24 wA1 wA2 wA3 d_Sights_copyFrom_57 (by decide) (Nat.le_of_ble_eq_true rfl) (fun h17 eh17 => ?_)
  have hI18 : Inv h17 := inv_cpy (n := 8) hI12 eh17 (fun _ => rfl)
  have f19 : fr S_Sights_copyX_0_4 h h17 := fr_row f13 eh17 (fun _ => rfl)
  have C20 : rcp h h17 13 81 8 := rcp_row C14 eh17 (by decide)
  have C21 : rcp h h17 14 82 8 := rcp_row C15 eh17 (by decide)
  have C22 : rcp h h17 15 83 8 := rcp_row C16 eh17 (by decide)
  have C23 : rcp h h17 16 84 8 := rcp_now f13 (fun _ => rfl) eh17
  refine V_aload_n 0 d_Sights_copyFrom_60 rfl rfl ?_
  refine V_aload_n 1 d_Sights_copyFrom_61 rfl rfl ?_
  refine N_getK fa_Sights_30 sk_80 rfl d_Sights_copyFrom_62 (kn_row eh17 (kn_row eh11 (kn_row eh6 (kn_row eh2 tK (by decide)) (by decide)) (by decide)) (by decide)) ?_
  refine N_putI fp_Sights_30 sk_12 rfl d_Sights_copyFrom_65 (fun h24 eh24 => ?_)
  have hI25 : Inv h24 := inv_put (lo := 0) (hi := 8) hI18 eh24 rfl tE (by (first | decide +kernel | omega))
  have f26 : fr S_Sights_copyX_0_4 h h24 := fr_put f19 eh24 rfl
  have C27 : rcp h h24 13 81 8 := rcp_put C20 eh24 (by decide)
  have C28 : rcp h h24 14 82 8 := rcp_put C21 eh24 (by decide)
  have C29 : rcp h h24 15 83 8 := rcp_put C22 eh24 (by decide)
  have C30 : rcp h h24 16 84 8 := rcp_put C23 eh24 (by decide)
  exact V_vret rfl d_Sights_copyFrom_68 ⟨rfl, ⟨hI25, f26, ⟨((kn_put eh24).trans tK.symm), C27, C28, C29, C30⟩⟩⟩
def S_County_copyX_0_4 : List (Nat × Option Nat) := [(0, some 3), (0, some 4), (1, none), (2, none), (3, none), (4, none), (5, none), (6, none), (7, some 4), (8, none), (9, none), (10, none), (11, none), (12, some 4), (13, none), (14, none), (15, none), (16, none)]
abbrev q_County_copyX_0_4 (h : Hp) (n : Int32) (nZ : Int) (m : Int32) (mZ : Int) : Option Value → Hp → Prop := pVd (fun h' => Inv h' ∧ fr S_County_copyX_0_4 h h' ∧ (cpy h h' 0 68))
set_option maxRecDepth 100000 in
theorem c_County_copyX_0_4 (h : Hp) (hI : Inv h) (n : Int32) (nZ : Int) (nE : n.toInt = nZ) (nK : h.1 68 3 = n) (m : Int32) (mZ : Int) (mE : m.toInt = mZ) (mK : h.1 68 4 = m) : Ct y_County_copyFrom b_County_copyFrom 2 none 2 81 [.ref 0, .ref 68] h (q_County_copyX_0_4 h n nZ m mZ) := by
  refine ct_ow R_County [some (.ref 0), some (.ref 68)] rfl (by decide) rfl (Nat.le_of_ble_eq_true rfl) ?_
  have f0 : fr S_County_copyX_0_4 h h := fr_rf
  refine V_aload_n 0 d_County_copyFrom_0 rfl rfl ?_
  refine V_getR fa_County_12 sk_0 rfl d_County_copyFrom_1 ?_
  refine V_aload_n 1 d_County_copyFrom_4 rfl rfl ?_
  refine V_getR fa_County_12 sk_68 rfl d_County_copyFrom_5 ?_
  obtain ⟨z1, z1Z, z1E, z1e⟩ : ∃ (y : Int32) (Y : Int), y.toInt = Y ∧ y = h.1 69 0 := ⟨_, _, rfl, rfl⟩
  have g2 : 2 ≤ z1Z ∧ z1Z ≤ 4 := inv_at hI z1E z1e rfl
  obtain ⟨z3, z3Z, z3E, z3e⟩ : ∃ (y : Int32) (Y : Int), y.toInt = Y ∧ y = h.1 69 1 := ⟨_, _, rfl, rfl⟩
  have g4 : 2 ≤ z3Z ∧ z3Z ≤ 4 := inv_at hI z3E z3e rfl
  obtain ⟨z5, z5Z, z5E, z5e⟩ : ∃ (y : Int32) (Y : Int), y.toInt = Y ∧ y = h.1 69 2 := ⟨_, _, rfl, rfl⟩
  obtain ⟨z6, z6Z, z6E, z6e⟩ : ∃ (y : Int32) (Y : Int), y.toInt = Y ∧ y = h.1 69 3 := ⟨_, _, rfl, rfl⟩
  refine N_callVV [.ref 69] [] cv_County_47 sk_1 rfl d_County_copyFrom_8 rfl (Nat.le_of_ble_eq_true rfl) (by decide) (by decide) (c_Land_copyX_0_4 h hI z1 z1Z z1E z1e.symm z3 z3Z z3E z3e.symm z5 z5Z z5E z5e.symm z6 z6Z z6E z6e.symm) (fun h8 p9 => ?_)
  obtain ⟨hI10, fh8, p9⟩ := p9
  have f11 : fr S_County_copyX_0_4 h h8 := fr_call f0 fh8 rfl
  have qL := p9
  refine V_aload_n 0 d_County_copyFrom_11 rfl rfl ?_
  refine V_getR fa_County_21 sk_0 rfl d_County_copyFrom_12 ?_
  refine V_aload_n 1 d_County_copyFrom_15 rfl rfl ?_
  refine V_getR fa_County_21 sk_68 rfl d_County_copyFrom_16 ?_
  obtain ⟨z12, z12Z, z12E, z12e⟩ : ∃ (y : Int32) (Y : Int), y.toInt = Y ∧ y = h8.1 75 4 := ⟨_, _, rfl, rfl⟩
  have g13 : 0 ≤ z12Z ∧ z12Z ≤ 8 := inv_at hI10 z12E z12e rfl
  refine N_callVV [.ref 75] [] cv_County_51 sk_7 rfl d_County_copyFrom_19 rfl (Nat.le_of_ble_eq_true rfl) (by decide) (by decide) (c_Ledger_copyX_0_4 h8 hI10 z12 z12Z z12E z12e.symm) (fun h15 p16 => ?_)
  obtain ⟨hI17, fh15, p16⟩ := p16
  have f18 : fr S_County_copyX_0_4 h h15 := fr_call f11 fh15 rfl
  have qG := p16
  refine V_aload_n 0 d_County_copyFrom_22 rfl rfl ?_
  refine V_getR fa_County_28 sk_0 rfl d_County_copyFrom_23 ?_
  refine V_aload_n 1 d_County_copyFrom_26 rfl rfl ?_
  refine V_getR fa_County_28 sk_68 rfl d_County_copyFrom_27 ?_
  obtain ⟨z19, z19Z, z19E, z19e⟩ : ∃ (y : Int32) (Y : Int), y.toInt = Y ∧ y = h15.1 80 4 := ⟨_, _, rfl, rfl⟩
  have g20 : 0 ≤ z19Z ∧ z19Z ≤ 8 := inv_at hI17 z19E z19e rfl
  refine N_callVV [.ref 80] [] cv_County_54 sk_12 rfl d_County_copyFrom_30 rfl (Nat.le_of_ble_eq_true rfl) (by decide) (by decide) (c_Sights_copyX_0_4 h15 hI17 z19 z19Z z19E z19e.symm) (fun h22 p23 => ?_)
  obtain ⟨hI24, fh22, p23⟩ := p23
  have f25 : fr S_County_copyX_0_4 h h22 := fr_call f18 fh22 rfl
  have qS := p23
  refine V_aload_n 0 d_County_copyFrom_33 rfl rfl ?_
  refine V_aload_n 1 d_County_copyFrom_34 rfl rfl ?_
  refine N_getK fa_County_41 sk_68 rfl d_County_copyFrom_35 (kn_call fh22 (kn_call fh15 (kn_call fh8 nK rfl) rfl) rfl) ?_
  refine N_putI fp_County_41 sk_0 rfl d_County_copyFrom_38 (fun h26 eh26 => ?_)
  have hI27 : Inv h26 := inv_full hI24 eh26 rfl
  have f28 : fr S_County_copyX_0_4 h h26 := fr_put f25 eh26 rfl
  refine V_aload_n 0 d_County_copyFrom_41 rfl rfl ?_
  refine V_aload_n 1 d_County_copyFrom_42 rfl rfl ?_
  refine N_getK fa_County_44 sk_68 rfl d_County_copyFrom_43 (kn_ne eh26 (kn_call fh22 (kn_call fh15 (kn_call fh8 mK rfl) rfl) rfl) (by decide)) ?_
  refine N_putI fp_County_44 sk_0 rfl d_County_copyFrom_46 (fun h29 eh29 => ?_)
  have hI30 : Inv h29 := inv_full hI27 eh29 rfl
  have f31 : fr S_County_copyX_0_4 h h29 := fr_put f28 eh29 rfl
  exact V_vret rfl d_County_copyFrom_49 ⟨rfl, ⟨hI30, f31, (cpy_of (a := 0) (b := 68) qL fh15 qG fh22 qS fh8 eh26 eh29 nK mK rfl rfl rfl rfl)⟩⟩
