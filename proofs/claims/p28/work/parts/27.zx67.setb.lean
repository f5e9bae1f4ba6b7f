section
def S_Land_copyX_1_0 : List (Nat × Option Nat) := [(18, none), (19, none), (20, none), (21, none), (22, none), (23, none)]
abbrev q_Land_copyX_1_0 (h : Hp) (w : Int32) (wZ : Int) (g : Int32) (gZ : Int) (x : Int32) (xZ : Int) (y : Int32) (yZ : Int) : Option Value → Hp → Prop := pVd (fun h' => Inv h' ∧ fr S_Land_copyX_1_0 h h' ∧ (h'.1 18 0 = h.1 1 0 ∧ h'.1 18 1 = h.1 1 1 ∧ h'.1 18 2 = h.1 1 2 ∧ h'.1 18 3 = h.1 1 3 ∧ rcp h h' 19 2 16 ∧ rcp h h' 20 3 16 ∧ rcp h h' 21 4 16 ∧ rcp h h' 22 5 16 ∧ rcp h h' 23 6 16))
set_option maxRecDepth 100000 in
theorem c_Land_copyX_1_0 (h : Hp) (hI : Inv h) (w : Int32) (wZ : Int) (wE : w.toInt = wZ) (wK : h.1 1 0 = w) (g : Int32) (gZ : Int) (gE : g.toInt = gZ) (gK : h.1 1 1 = g) (x : Int32) (xZ : Int) (xE : x.toInt = xZ) (xK : h.1 1 2 = x) (y : Int32) (yZ : Int) (yE : y.toInt = yZ) (yK : h.1 1 3 = y) : Ct y_Land_copyFrom b_Land_copyFrom 2 none 1 60 [.ref 18, .ref 1] h (q_Land_copyX_1_0 h w wZ g gZ x xZ y yZ) := by
  refine ct_ow R_Land [some (.ref 18), some (.ref 1)] rfl (by decide) rfl (Nat.le_of_ble_eq_true rfl) ?_
  have f0 : fr S_Land_copyX_1_0 h h := fr_rf
  have g1 : 2 ≤ wZ ∧ wZ ≤ 4 := inv_at hI wE wK.symm rfl
  have g2 : 2 ≤ gZ ∧ gZ ≤ 4 := inv_at hI gE gK.symm rfl
  refine V_aload_n 0 d_Land_copyFrom_0 rfl rfl ?_
  refine V_aload_n 1 d_Land_copyFrom_1 rfl rfl ?_
  refine N_getK fa_Land_27 sk_1 rfl d_Land_copyFrom_2 wK ?_
  refine N_putI fp_Land_27 sk_18 rfl d_Land_copyFrom_5 (fun h3 eh3 => ?_)
  have hI4 : Inv h3 := inv_put (lo := 2) (hi := 4) hI eh3 rfl wE (by (first | decide +kernel | omega))
  have f5 : fr S_Land_copyX_1_0 h h3 := fr_put f0 eh3 rfl
  refine V_aload_n 0 d_Land_copyFrom_8 rfl rfl ?_
  refine V_aload_n 1 d_Land_copyFrom_9 rfl rfl ?_
  refine N_getK fa_Land_31 sk_1 rfl d_Land_copyFrom_10 (kn_ne eh3 gK (by decide)) ?_
  refine N_putI fp_Land_31 sk_18 rfl d_Land_copyFrom_13 (fun h6 eh6 => ?_)
  have hI7 : Inv h6 := inv_put (lo := 2) (hi := 4) hI4 eh6 rfl gE (by (first | decide +kernel | omega))
  have f8 : fr S_Land_copyX_1_0 h h6 := fr_put f5 eh6 rfl
  refine V_aload_n 0 d_Land_copyFrom_16 rfl rfl ?_
  refine V_aload_n 1 d_Land_copyFrom_17 rfl rfl ?_
  refine N_getK fa_Land_34 sk_1 rfl d_Land_copyFrom_18 (kn_ne eh6 (kn_ne eh3 xK (by decide)) (by decide)) ?_
  refine N_putI fp_Land_34 sk_18 rfl d_Land_copyFrom_21 (fun h9 eh9 => ?_)
  have hI10 : Inv h9 := inv_full hI7 eh9 rfl
  have f11 : fr S_Land_copyX_1_0 h h9 := fr_put f8 eh9 rfl
  refine V_aload_n 0 d_Land_copyFrom_24 rfl rfl ?_
  refine V_aload_n 1 d_Land_copyFrom_25 rfl rfl ?_
  refine N_getK fa_Land_37 sk_1 rfl d_Land_copyFrom_26 (kn_ne eh9 (kn_ne eh6 (kn_ne eh3 yK (by decide)) (by decide)) (by decide)) ?_
  refine N_putI fp_Land_37 sk_18 rfl d_Land_copyFrom_29 (fun h12 eh12 => ?_)
  have hI13 : Inv h12 := inv_full hI10 eh12 rfl
  have f14 : fr S_Land_copyX_1_0 h h12 := fr_put f11 eh12 rfl
  refine V_aload_n 1 d_Land_copyFrom_32 rfl rfl ?_
  refine V_getR fa_Land_9 sk_1 rfl d_Land_copyFrom_33 ?_
  refine V_iconst 0 d_Land_copyFrom_36 (by decide) ?_
  refine V_aload_n 0 d_Land_copyFrom_37 rfl rfl ?_
  refine V_getR fa_Land_9 sk_18 rfl d_Land_copyFrom_38 ?_
  refine V_iconst 0 d_Land_copyFrom_41 (by decide) ?_
  refine V_bipush 16 d_Land_copyFrom_42 (by decide) ?_
  refine N_acopy sk_2 sk_19 tc_0 tc_0 tc_16 (by (first | decide +kernel | omega)) wa_Land_46 wA1 wA2 wA3 d_Land_copyFrom_44 (by decide) (Nat.le_of_ble_eq_true rfl) (fun h15 eh15 => ?_)
  have hI16 : Inv h15 := inv_cpy (n := 16) hI13 eh15 (fun _ => rfl)
  have f17 : fr S_Land_copyX_1_0 h h15 := fr_row f14 eh15 (fun _ => rfl)
  have C18 : rcp h h15 19 2 16 := rcp_now f14 (fun _ => rfl) eh15
  refine V_aload_n 1 d_Land_copyFrom_47 rfl rfl ?_
  refine V_getR fa_Land_15 sk_1 rfl d_Land_copyFrom_48 ?_
  refine V_iconst 0 d_Land_copyFrom_51 (by decide) ?_
  refine V_aload_n 0 d_Land_copyFrom_52 rfl rfl ?_
  refine V_getR fa_Land_15 sk_18 rfl d_Land_copyFrom_53 ?_
  refine V_iconst 0 d_Land_copyFrom_56 (by decide) ?_
  refine V_bipush 16 d_Land_copyFrom_57 (by decide) ?_
  refine N_acopy sk_3 sk_20 tc_0 tc_0 tc_16 (by (first | decide +kernel | omega)) wa_Land_46 wA1 wA2 wA3 d_Land_copyFrom_59 (by decide) (Nat.le_of_ble_eq_true rfl) (fun h19 eh19 => ?_)
  have hI20 : Inv h19 := inv_cpy (n := 16) hI16 eh19 (fun _ => rfl)
  have f21 : fr S_Land_copyX_1_0 h h19 := fr_row f17 eh19 (fun _ => rfl)
  have C22 : rcp h h19 19 2 16 := rcp_row C18 eh19 (by decide)
  have C23 : rcp h h19 20 3 16 := rcp_now f17 (fun _ => rfl) eh19
  refine V_aload_n 1 d_Land_copyFrom_62 rfl rfl ?_
  refine V_getR fa_Land_18 sk_1 rfl d_Land_copyFrom_63 ?_
  refine V_iconst 0 d_Land_copyFrom_66 (by decide) ?_
  refine V_aload_n 0 d_Land_copyFrom_67 rfl rfl ?_
  refine V_getR fa_Land_18 sk_18 rfl d_Land_copyFrom_68 ?_
  refine V_iconst 0 d_Land_copyFrom_71 (by decide) ?_
  refine V_bipush 16 d_Land_copyFrom_72 (by decide) ?_
  refine N_acopy sk_4 sk_21 tc_0 tc_0 tc_16 (by (first | decide +kernel | omega)) wa_Land_46 wA1 wA2 wA3 d_Land_copyFrom_74 (by decide) (Nat.le_of_ble_eq_true rfl) (fun h24 eh24 => ?_)
  have hI25 : Inv h24 := inv_cpy (n := 16) hI20 eh24 (fun _ => rfl)
  have f26 : fr S_Land_copyX_1_0 h h24 := fr_row f21 eh24 (fun _ => rfl)
  have C27 : rcp h h24 19 2 16 := rcp_row C22 eh24 (by decide)
  have C28 : rcp h h24 20 3 16 := rcp_row C23 eh24 (by decide)
  have C29 : rcp h h24 21 4 16 := rcp_now f21 (fun _ => rfl) eh24
  refine V_aload_n 1 d_Land_copyFrom_77 rfl rfl ?_
  refine V_getR fa_Land_21 sk_1 rfl d_Land_copyFrom_78 ?_
  refine V_iconst 0 d_Land_copyFrom_81 (by decide) ?_
  refine V_aload_n 0 d_Land_copyFrom_82 rfl rfl ?_
  refine V_getR fa_Land_21 sk_18 rfl d_Land_copyFrom_83 ?_
  refine V_iconst 0 d_Land_copyFrom_86 (by decide) ?_
  refine V_bipush 16 d_Land_copyFrom_87 (by decide) ?_
  refine N_acopy sk_5 sk_22 tc_0 tc_0 tc_16 (by (first | decide +kernel | omega)) wa_Land_46 wA1 wA2 wA3 d_Land_copyFrom_89 (by decide) (Nat.le_of_ble_eq_true rfl) (fun h30 eh30 => ?_)
  have hI31 : Inv h30 := inv_cpy (n := 16) hI25 eh30 (fun _ => rfl)
  have f32 : fr S_Land_copyX_1_0 h h30 := fr_row f26 eh30 (fun _ => rfl)
  have C33 : rcp h h30 19 2 16 := rcp_row C27 eh30 (by decide)
  have C34 : rcp h h30 20 3 16 := rcp_row C28 eh30 (by decide)
  have C35 : rcp h h30 21 4 16 := rcp_row C29 eh30 (by decide)
  have C36 : rcp h h30 22 5 16 := rcp_now f26 (fun _ => rfl) eh30
  refine V_aload_n 1 d_Land_copyFrom_92 rfl rfl ?_
  refine V_getR fa_Land_24 sk_1 rfl d_Land_copyFrom_93 ?_
  refine V_iconst 0 d_Land_copyFrom_96 (by decide) ?_
  refine V_aload_n 0 d_Land_copyFrom_97 rfl rfl ?_
  refine V_getR fa_Land_24 sk_18 rfl d_Land_copyFrom_98 ?_
  refine V_iconst 0 d_Land_copyFrom_101 (by decide) ?_
  refine V_bipush 16 d_Land_copyFrom_102 (by decide) ?_
  refine N_acopy sk_6 sk_23 tc_0 tc_0 tc_16 (by (first | decide +kernel | omega)) wa_Land_46 wA1 wA2 wA3 d_Land_copyFrom_104 (by decide) (Nat.le_of_ble_eq_true rfl) (fun h37 eh37 => ?_)
  have hI38 : Inv h37 := inv_cpy (n := 16) hI31 eh37 (fun _ => rfl)
  have f39 : fr S_Land_copyX_1_0 h h37 := fr_row f32 eh37 (fun _ => rfl)
  have C40 : rcp h h37 19 2 16 := rcp_row C33 eh37 (by decide)
  have C41 : rcp h h37 20 3 16 := rcp_row C34 eh37 (by decide)
  have C42 : rcp h h37 21 4 16 := rcp_row C35 eh37 (by decide)
  have C43 : rcp h h37 22 5 16 := rcp_row C36 eh37 (by decide)
  have C44 : rcp h h37 23 6 16 := rcp_now f32 (fun _ => rfl) eh37
  exact V_vret rfl d_Land_copyFrom_107 ⟨rfl, ⟨hI38, f39, ⟨((kn_row eh37 (kn_row eh30 (kn_row eh24 (kn_row eh19 (kn_row eh15 (kn_nei eh12 (kn_nei eh9 (kn_nei eh6 (kn_put eh3) (by decide)) (by decide)) (by decide)) (by decide)) (by decide)) (by decide)) (by decide)) (by decide)).trans wK.symm), ((kn_row eh37 (kn_row eh30 (kn_row eh24 (kn_row eh19 (kn_row eh15 (kn_nei eh12 (kn_nei eh9 (kn_put eh6) (by decide)) (by decide)) (by decide)) (by decide)) (by decide)) (by decide)) (by decide)).trans gK.symm), ((kn_row eh37 (kn_row eh30 (kn_row eh24 (kn_row eh19 (kn_row eh15 (kn_nei eh12 (kn_put eh9) (by decide)) (by decide)) (by decide)) (by decide)) (by decide)) (by decide)).trans xK.symm), ((kn_row eh37 (kn_row eh30 (kn_row eh24 (kn_row eh19 (kn_row eh15 (kn_put eh12) (by decide)) (by decide)) (by decide)) (by decide)) (by decide)).trans yK.symm), C40, C41, C42, C43, C44⟩⟩⟩
def S_Ledger_copyX_1_0 : List (Nat × Option Nat) := [(24, some 4), (25, none), (26, none), (27, none), (28, none)]
abbrev q_Ledger_copyX_1_0 (h : Hp) (t : Int32) (tZ : Int) : Option Value → Hp → Prop := pVd (fun h' => Inv h' ∧ fr S_Ledger_copyX_1_0 h h' ∧ (h'.1 24 4 = h.1 7 4 ∧ rcp h h' 25 8 4 ∧ rcp h h' 26 9 8 ∧ rcp h h' 27 10 8 ∧ rcp h h' 28 11 8))
set_option maxRecDepth 100000 in
theorem c_Ledger_copyX_1_0 (h : Hp) (hI : Inv h) (t : Int32) (tZ : Int) (tE : t.toInt = tZ) (tK : h.1 7 4 = t) : Ct y_Ledger_copyFrom b_Ledger_copyFrom 2 none 1 60 [.ref 24, .ref 7] h (q_Ledger_copyX_1_0 h t tZ) := by
  refine ct_ow R_Ledger [some (.ref 24), some (.ref 7)] rfl (by decide) rfl (Nat.le_of_ble_eq_true rfl) ?_
  have f0 : fr S_Ledger_copyX_1_0 h h := fr_rf
  have g1 : 0 ≤ tZ ∧ tZ ≤ 8 := inv_at hI tE tK.symm rfl
  refine V_aload_n 1 d_Ledger_copyFrom_0 rfl rfl ?_
  refine V_getR fa_Ledger_9 sk_7 rfl d_Ledger_copyFrom_1 ?_
  refine V_iconst 0 d_Ledger_copyFrom_4 (by decide) ?_
  refine V_aload_n 0 d_Ledger_copyFrom_5 rfl rfl ?_
  refine V_getR fa_Ledger_9 sk_24 rfl d_Ledger_copyFrom_6 ?_
  refine V_iconst 0 d_Ledger_copyFrom_9 (by decide) ?_
  refine V_iconst 4 d_Ledger_copyFrom_10 (by decide) ?_
  refine N_acopy sk_8 sk_25 tc_0 tc_0 tc_4 (by (first | decide +kernel | omega)) wa_Ledger_34 wA1 wA2 wA3 d_Ledger_copyFrom_11 (by decide) (Nat.le_of_ble_eq_true rfl) (fun h2 eh2 => ?_)
  have hI3 : Inv h2 := inv_cpy (n := 4) hI eh2 (fun _ => rfl)
  have f4 : fr S_Ledger_copyX_1_0 h h2 := fr_row f0 eh2 (fun _ => rfl)
  have C5 : rcp h h2 25 8 4 := rcp_now f0 (fun _ => rfl) eh2
  refine V_aload_n 1 d_Ledger_copyFrom_14 rfl rfl ?_
  refine V_getR fa_Ledger_15 sk_7 rfl d_Ledger_copyFrom_15 ?_
  refine V_iconst 0 d_Ledger_copyFrom_18 (by decide) ?_
  refine V_aload_n 0 d_Ledger_copyFrom_19 rfl rfl ?_
  refine V_getR fa_Ledger_15 sk_24 rfl d_Ledger_copyFrom_20 ?_
  refine V_iconst 0 d_Ledger_copyFrom_23 (by decide) ?_
  refine V_bipush 8 d_Ledger_copyFrom_24 (by decide) ?_
  refine N_acopy sk_9 sk_26 tc_0 tc_0 tc_8 (by (first | decide +kernel | omega)) wa_Ledger_34 wA1 wA2 wA3 d_Ledger_copyFrom_26 (by decide) (Nat.le_of_ble_eq_true rfl) (fun h6 eh6 => ?_)
  have hI7 : Inv h6 := inv_cpy (n := 8) hI3 eh6 (fun _ => rfl)
  have f8 : fr S_Ledger_copyX_1_0 h h6 := fr_row f4 eh6 (fun _ => rfl)
  have C9 : rcp h h6 25 8 4 := rcp_row C5 eh6 (by decide)
  have C10 : rcp h h6 26 9 8 := rcp_now f4 (fun _ => rfl) eh6
  refine V_aload_n 1 d_Ledger_copyFrom_29 rfl rfl ?_
  refine V_getR fa_Ledger_18 sk_7 rfl d_Ledger_copyFrom_30 ?_
  refine V_iconst 0 d_Ledger_copyFrom_33 (by decide) ?_
  refine V_aload_n 0 d_Ledger_copyFrom_34 rfl rfl ?_
  refine V_getR fa_Ledger_18 sk_24 rfl d_Ledger_copyFrom_35 ?_
  refine V_iconst 0 d_Ledger_copyFrom_38 (by decide) ?_
  refine V_bipush 8 d_Ledger_copyFrom_39 (by decide) ?_
  refine N_acopy sk_10 sk_27 tc_0 tc_0 tc_8 (by (first | decide +kernel | omega)) wa_Ledger_34 wA1 wA2 wA3 d_Ledger_copyFrom_41 (by decide) (Nat.le_of_ble_eq_true rfl) (fun h11 eh11 => ?_)
  have hI12 : Inv h11 := inv_cpy (n := 8) hI7 eh11 (fun _ => rfl)
  have f13 : fr S_Ledger_copyX_1_0 h h11 := fr_row f8 eh11 (fun _ => rfl)
  have C14 : rcp h h11 25 8 4 := rcp_row C9 eh11 (by decide)
  have C15 : rcp h h11 26 9 8 := rcp_row C10 eh11 (by decide)
  have C16 : rcp h h11 27 10 8 := rcp_now f8 (fun _ => rfl) eh11
  refine V_aload_n 1 d_Ledger_copyFrom_44 rfl rfl ?_
  refine V_getR fa_Ledger_21 sk_7 rfl d_Ledger_copyFrom_45 ?_
  refine V_iconst 0 d_Ledger_copyFrom_48 (by decide) ?_
  refine V_aload_n 0 d_Ledger_copyFrom_49 rfl rfl ?_
  refine V_getR fa_Ledger_21 sk_24 rfl d_Ledger_copyFrom_50 ?_
  refine V_iconst 0 d_Ledger_copyFrom_53 (by decide) ?_
  refine V_bipush 8 d_Ledger_copyFrom_54 (by decide) ?_
  refine N_acopy sk_11 sk_28 tc_0 tc_0 tc_8 (by (first | decide +kernel | omega)) wa_Ledger_34 wA1 wA2 wA3 d_Ledger_copyFrom_56 (by decide) (Nat.le_of_ble_eq_true rfl) (fun h17 eh17 => ?_)
  have hI18 : Inv h17 := inv_cpy (n := 8) hI12 eh17 (fun _ => rfl)
  have f19 : fr S_Ledger_copyX_1_0 h h17 := fr_row f13 eh17 (fun _ => rfl)
  have C20 : rcp h h17 25 8 4 := rcp_row C14 eh17 (by decide)
  have C21 : rcp h h17 26 9 8 := rcp_row C15 eh17 (by decide)
  have C22 : rcp h h17 27 10 8 := rcp_row C16 eh17 (by decide)
  have C23 : rcp h h17 28 11 8 := rcp_now f13 (fun _ => rfl) eh17
  refine V_aload_n 0 d_Ledger_copyFrom_59 rfl rfl ?_
  refine V_aload_n 1 d_Ledger_copyFrom_60 rfl rfl ?_
  refine N_getK fa_Ledger_30 sk_7 rfl d_Ledger_copyFrom_61 (kn_row eh17 (kn_row eh11 (kn_row eh6 (kn_row eh2 tK (by decide)) (by decide)) (by decide)) (by decide)) ?_
  refine N_putI fp_Ledger_30 sk_24 rfl d_Ledger_copyFrom_64 (fun h24 eh24 => ?_)
  have hI25 : Inv h24 := inv_put (lo := 0) (hi := 8) hI18 eh24 rfl tE (by (first | decide +kernel | omega))
  have f26 : fr S_Ledger_copyX_1_0 h h24 := fr_put f19 eh24 rfl
  have C27 : rcp h h24 25 8 4 := rcp_put C20 eh24 (by decide)
  have C28 : rcp h h24 26 9 8 := rcp_put C21 eh24 (by decide)
  have C29 : rcp h h24 27 10 8 := rcp_put C22 eh24 (by decide)
  have C30 : rcp h h24 28 11 8 := rcp_put C23 eh24 (by decide)
  exact V_vret rfl d_Ledger_copyFrom_67 ⟨rfl, ⟨hI25, f26, ⟨((kn_put eh24).trans tK.symm), C27, C28, C29, C30⟩⟩⟩
def S_Sights_copyX_1_0 : List (Nat × Option Nat) := [(29, some 4), (30, none), (31, none), (32, none), (33, none)]
abbrev q_Sights_copyX_1_0 (h : Hp) (t : Int32) (tZ : Int) : Option Value → Hp → Prop := pVd (fun h' => Inv h' ∧ fr S_Sights_copyX_1_0 h h' ∧ (h'.1 29 4 = h.1 12 4 ∧ rcp h h' 30 13 8 ∧ rcp h h' 31 14 8 ∧ rcp h h' 32 15 8 ∧ rcp h h' 33 16 8))
set_option maxRecDepth 100000 in
theorem c_Sights_copyX_1_0 (h : Hp) (hI : Inv h) (t : Int32) (tZ : Int) (tE : t.toInt = tZ) (tK : h.1 12 4 = t) : Ct y_Sights_copyFrom b_Sights_copyFrom 2 none 1 60 [.ref 29, .ref 12] h (q_Sights_copyX_1_0 h t tZ) := by
  refine ct_ow R_Sights [some (.ref 29), some (.ref 12)] rfl (by decide) rfl (Nat.le_of_ble_eq_true rfl) ?_
  have f0 : fr S_Sights_copyX_1_0 h h := fr_rf
  have g1 : 0 ≤ tZ ∧ tZ ≤ 8 := inv_at hI tE tK.symm rfl
  refine V_aload_n 1 d_Sights_copyFrom_0 rfl rfl ?_
  refine V_getR fa_Sights_9 sk_12 rfl d_Sights_copyFrom_1 ?_
  refine V_iconst 0 d_Sights_copyFrom_4 (by decide) ?_
  refine V_aload_n 0 d_Sights_copyFrom_5 rfl rfl ?_
  refine V_getR fa_Sights_9 sk_29 rfl d_Sights_copyFrom_6 ?_
  refine V_iconst 0 d_Sights_copyFrom_9 (by decide) ?_
  refine V_bipush 8 d_Sights_copyFrom_10 (by decide) ?_
  refine N_acopy sk_13 sk_30 tc_0 tc_0 tc_8 (by (first | decide +kernel | omega)) wa_Sights_24 wA1 wA2 wA3 d_Sights_copyFrom_12 (by decide) (Nat.le_of_ble_eq_true rfl) (fun h2 eh2 => ?_)
  have hI3 : Inv h2 := inv_cpy (n := 8) hI eh2 (fun _ => rfl)
  have f4 : fr S_Sights_copyX_1_0 h h2 := fr_row f0 eh2 (fun _ => rfl)
  have C5 : rcp h h2 30 13 8 := rcp_now f0 (fun _ => rfl) eh2
  refine V_aload_n 1 d_Sights_copyFrom_15 rfl rfl ?_
  refine V_getR fa_Sights_15 sk_12 rfl d_Sights_copyFrom_16 ?_
  refine V_iconst 0 d_Sights_copyFrom_19 (by decide) ?_
  refine V_aload_n 0 d_Sights_copyFrom_20 rfl rfl ?_
  refine V_getR fa_Sights_15 sk_29 rfl d_Sights_copyFrom_21 ?_
  refine V_iconst 0 d_Sights_copyFrom_24 (by decide) ?_
  refine V_bipush 8 d_Sights_copyFrom_25 (by decide) ?_
  refine N_acopy sk_14 sk_31 tc_0 tc_0 tc_8 (by (first | decide +kernel | omega)) wa_Sights_24 wA1 wA2 wA3 d_Sights_copyFrom_27 (by decide) (Nat.le_of_ble_eq_true rfl) (fun h6 eh6 => ?_)
  have hI7 : Inv h6 := inv_cpy (n := 8) hI3 eh6 (fun _ => rfl)
  have f8 : fr S_Sights_copyX_1_0 h h6 := fr_row f4 eh6 (fun _ => rfl)
  have C9 : rcp h h6 30 13 8 := rcp_row C5 eh6 (by decide)
  have C10 : rcp h h6 31 14 8 := rcp_now f4 (fun _ => rfl) eh6
  refine V_aload_n 1 d_Sights_copyFrom_30 rfl rfl ?_
  refine V_getR fa_Sights_18 sk_12 rfl d_Sights_copyFrom_31 ?_
  refine V_iconst 0 d_Sights_copyFrom_34 (by decide) ?_
  refine V_aload_n 0 d_Sights_copyFrom_35 rfl rfl ?_
  refine V_getR fa_Sights_18 sk_29 rfl d_Sights_copyFrom_36 ?_
  refine V_iconst 0 d_Sights_copyFrom_39 (by decide) ?_
  refine V_bipush 8 d_Sights_copyFrom_40 (by decide) ?_
  refine N_acopy sk_15 sk_32 tc_0 tc_0 tc_8 (by (first | decide +kernel | omega)) wa_Sights_24 wA1 wA2 wA3 d_Sights_copyFrom_42 (by decide) (Nat.le_of_ble_eq_true rfl) (fun h11 eh11 => ?_)
  have hI12 : Inv h11 := inv_cpy (n := 8) hI7 eh11 (fun _ => rfl)
  have f13 : fr S_Sights_copyX_1_0 h h11 := fr_row f8 eh11 (fun _ => rfl)
  have C14 : rcp h h11 30 13 8 := rcp_row C9 eh11 (by decide)
  have C15 : rcp h h11 31 14 8 := rcp_row C10 eh11 (by decide)
  have C16 : rcp h h11 32 15 8 := rcp_now f8 (fun _ => rfl) eh11
  refine V_aload_n 1 d_Sights_copyFrom_45 rfl rfl ?_
  refine V_getR fa_Sights_21 sk_12 rfl d_Sights_copyFrom_46 ?_
  refine V_iconst 0 d_Sights_copyFrom_49 (by decide) ?_
  refine V_aload_n 0 d_Sights_copyFrom_50 rfl rfl ?_
  refine V_getR fa_Sights_21 sk_29 rfl d_Sights_copyFrom_51 ?_
  refine V_iconst 0 d_Sights_copyFrom_54 (by decide) ?_
  refine V_bipush 8 d_Sights_copyFrom_55 (by decide) ?_
  refine N_acopy sk_16 sk_33 tc_0 tc_0 tc_8 (by (first | decide +kernel | omega)) wa_Sights_24 wA1 wA2 wA3 d_Sights_copyFrom_57 (by decide) (Nat.le_of_ble_eq_true rfl) (fun h17 eh17 => ?_)
  have hI18 : Inv h17 := inv_cpy (n := 8) hI12 eh17 (fun _ => rfl)
  have f19 : fr S_Sights_copyX_1_0 h h17 := fr_row f13 eh17 (fun _ => rfl)
  have C20 : rcp h h17 30 13 8 := rcp_row C14 eh17 (by decide)
  have C21 : rcp h h17 31 14 8 := rcp_row C15 eh17 (by decide)
  have C22 : rcp h h17 32 15 8 := rcp_row C16 eh17 (by decide)
  have C23 : rcp h h17 33 16 8 := rcp_now f13 (fun _ => rfl) eh17
  refine V_aload_n 0 d_Sights_copyFrom_60 rfl rfl ?_
  refine V_aload_n 1 d_Sights_copyFrom_61 rfl rfl ?_
  refine N_getK fa_Sights_30 sk_12 rfl d_Sights_copyFrom_62 (kn_row eh17 (kn_row eh11 (kn_row eh6 (kn_row eh2 tK (by decide)) (by decide)) (by decide)) (by decide)) ?_
  refine N_putI fp_Sights_30 sk_29 rfl d_Sights_copyFrom_65 (fun h24 eh24 => ?_)
  have hI25 : Inv h24 := inv_put (lo := 0) (hi := 8) hI18 eh24 rfl tE (by (first | decide +kernel | omega))
  have f26 : fr S_Sights_copyX_1_0 h h24 := fr_put f19 eh24 rfl
  have C27 : rcp h h24 30 13 8 := rcp_put C20 eh24 (by decide)
  have C28 : rcp h h24 31 14 8 := rcp_put C21 eh24 (by decide)
  have C29 : rcp h h24 32 15 8 := rcp_put C22 eh24 (by decide)
  have C30 : rcp h h24 33 16 8 := rcp_put C23 eh24 (by decide)
  exact V_vret rfl d_Sights_copyFrom_68 ⟨rfl, ⟨hI25, f26, ⟨((kn_put eh24).trans tK.symm), C27, C28, C29, C30⟩⟩⟩
def S_County_copyX_1_0 : List (Nat × Option Nat) := [(17, some 3), (17, some 4), (18, none), (19, none), (20, none), (21, none), (22, none), (23, none), (24, some 4), (25, none), (26, none), (27, none), (28, none), (29, some 4), (30, none), (31, none), (32, none), (33, none)]
abbrev q_County_copyX_1_0 (h : Hp) (n : Int32) (nZ : Int) (m : Int32) (mZ : Int) : Option Value → Hp → Prop := pVd (fun h' => Inv h' ∧ fr S_County_copyX_1_0 h h' ∧ (cpy h h' 17 0))
set_option maxRecDepth 100000 in
theorem c_County_copyX_1_0 (h : Hp) (hI : Inv h) (n : Int32) (nZ : Int) (nE : n.toInt = nZ) (nK : h.1 0 3 = n) (m : Int32) (mZ : Int) (mE : m.toInt = mZ) (mK : h.1 0 4 = m) : Ct y_County_copyFrom b_County_copyFrom 2 none 2 81 [.ref 17, .ref 0] h (q_County_copyX_1_0 h n nZ m mZ) := by
  refine ct_ow R_County [some (.ref 17), some (.ref 0)] rfl (by decide) rfl (Nat.le_of_ble_eq_true rfl) ?_
  have f0 : fr S_County_copyX_1_0 h h := fr_rf
  refine V_aload_n 0 d_County_copyFrom_0 rfl rfl ?_
  refine V_getR fa_County_12 sk_17 rfl d_County_copyFrom_1 ?_
  refine V_aload_n 1 d_County_copyFrom_4 rfl rfl ?_
  refine V_getR fa_County_12 sk_0 rfl d_County_copyFrom_5 ?_
  obtain ⟨z1, z1Z, z1E, z1e⟩ : ∃ (y : Int32) (Y : Int), y.toInt = Y ∧ y = h.1 1 0 := ⟨_, _, rfl, rfl⟩
  have g2 : 2 ≤ z1Z ∧ z1Z ≤ 4 := inv_at hI z1E z1e rfl
  obtain ⟨z3, z3Z, z3E, z3e⟩ : ∃ (y : Int32) (Y : Int), y.toInt = Y ∧ y = h.1 1 1 := ⟨_, _, rfl, rfl⟩
  have g4 : 2 ≤ z3Z ∧ z3Z ≤ 4 := inv_at hI z3E z3e rfl
  obtain ⟨z5, z5Z, z5E, z5e⟩ : ∃ (y : Int32) (Y : Int), y.toInt = Y ∧ y = h.1 1 2 := ⟨_, _, rfl, rfl⟩
  obtain ⟨z6, z6Z, z6E, z6e⟩ : ∃ (y : Int32) (Y : Int), y.toInt = Y ∧ y = h.1 1 3 := ⟨_, _, rfl, rfl⟩
  refine N_callVV [.ref 1] [] cv_County_47 sk_18 rfl d_County_copyFrom_8 rfl (Nat.le_of_ble_eq_true rfl) (by decide) (by decide) (c_Land_copyX_1_0 h hI z1 z1Z z1E z1e.symm z3 z3Z z3E z3e.symm z5 z5Z z5E z5e.symm z6 z6Z z6E z6e.symm) (fun h8 p9 => ?_)
  obtain ⟨hI10, fh8, p9⟩ := p9
  have f11 : fr S_County_copyX_1_0 h h8 := fr_call f0 fh8 rfl
  have qL := p9
  refine V_aload_n 0 d_County_copyFrom_11 rfl rfl ?_
  refine V_getR fa_County_21 sk_17 rfl d_County_copyFrom_12 ?_
  refine V_aload_n 1 d_County_copyFrom_15 rfl rfl ?_
  refine V_getR fa_County_21 sk_0 rfl d_County_copyFrom_16 ?_
  obtain ⟨z12, z12Z, z12E, z12e⟩ : ∃ (y : Int32) (Y : Int), y.toInt = Y ∧ y = h8.1 7 4 := ⟨_, _, rfl, rfl⟩
  have g13 : 0 ≤ z12Z ∧ z12Z ≤ 8 := inv_at hI10 z12E z12e rfl
  refine N_callVV [.ref 7] [] cv_County_51 sk_24 rfl d_County_copyFrom_19 rfl (Nat.le_of_ble_eq_true rfl) (by decide) (by decide) (c_Ledger_copyX_1_0 h8 hI10 z12 z12Z z12E z12e.symm) (fun h15 p16 => ?_)
  obtain ⟨hI17, fh15, p16⟩ := p16
  have f18 : fr S_County_copyX_1_0 h h15 := fr_call f11 fh15 rfl
  have qG := p16
  refine V_aload_n 0 d_County_copyFrom_22 rfl rfl ?_
  refine V_getR fa_County_28 sk_17 rfl d_County_copyFrom_23 ?_
  refine V_aload_n 1 d_County_copyFrom_26 rfl rfl ?_
  refine V_getR fa_County_28 sk_0 rfl d_County_copyFrom_27 ?_
  obtain ⟨z19, z19Z, z19E, z19e⟩ : ∃ (y : Int32) (Y : Int), y.toInt = Y ∧ y = h15.1 12 4 := ⟨_, _, rfl, rfl⟩
  have g20 : 0 ≤ z19Z ∧ z19Z ≤ 8 := inv_at hI17 z19E z19e rfl
  refine N_callVV [.ref 12] [] cv_County_54 sk_29 rfl d_County_copyFrom_30 rfl (Nat.le_of_ble_eq_true rfl) (by decide) (by decide) (c_Sights_copyX_1_0 h15 hI17 z19 z19Z z19E z19e.symm) (fun h22 p23 => ?_)
  obtain ⟨hI24, fh22, p23⟩ := p23
  have f25 : fr S_County_copyX_1_0 h h22 := fr_call f18 fh22 rfl
  have qS := p23
  refine V_aload_n 0 d_County_copyFrom_33 rfl rfl ?_
  refine V_aload_n 1 d_County_copyFrom_34 rfl rfl ?_
  refine N_getK fa_County_41 sk_0 rfl d_County_copyFrom_35 (kn_call fh22 (kn_call fh15 (kn_call fh8 nK rfl) rfl) rfl) ?_
  refine N_putI fp_County_41 sk_17 rfl d_County_copyFrom_38 (fun h26 eh26 => ?_)
  have hI27 : Inv h26 := inv_full hI24 eh26 rfl
  have f28 : fr S_County_copyX_1_0 h h26 := fr_put f25 eh26 rfl
  refine V_aload_n 0 d_County_copyFrom_41 rfl rfl ?_
  refine V_aload_n 1 d_County_copyFrom_42 rfl rfl ?_
  refine N_getK fa_County_44 sk_0 rfl d_County_copyFrom_43 (kn_ne eh26 (kn_call fh22 (kn_call fh15 (kn_call fh8 mK rfl) rfl) rfl) (by decide)) ?_
  refine N_putI fp_County_44 sk_17 rfl d_County_copyFrom_46 (fun h29 eh29 => ?_)
  have hI30 : Inv h29 := inv_full hI27 eh29 rfl
  have f31 : fr S_County_copyX_1_0 h h29 := fr_put f28 eh29 rfl
  exact V_vret rfl d_County_copyFrom_49 ⟨rfl, ⟨hI30, f31, (cpy_of (a := 17) (b := 0) qL fh15 qG fh22 qS fh8 eh26 eh29 nK mK rfl rfl rfl rfl)⟩⟩
def S_Land_copyX_0_1 : List (Nat × Option Nat) := [(1, none), (2, none), (3, none), (4, none), (5, none), (6, none)]
abbrev q_Land_copyX_0_1 (h : Hp) (w : Int32) (wZ : Int) (g : Int32) (gZ : Int) (x : Int32) (xZ : Int) (y : Int32) (yZ : Int) : Option Value → Hp → Prop := pVd (fun h' => Inv h' ∧ fr S_Land_copyX_0_1 h h' ∧ (h'.1 1 0 = h.1 18 0 ∧ h'.1 1 1 = h.1 18 1 ∧ h'.1 1 2 = h.1 18 2 ∧ h'.1 1 3 = h.1 18 3 ∧ rcp h h' 2 19 16 ∧ rcp h h' 3 20 16 ∧ rcp h h' 4 21 16 ∧ rcp h h' 5 22 16 ∧ rcp h h' 6 23 16))
set_option maxRecDepth 100000 in
theorem c_Land_copyX_0_1 (h : Hp) (hI : Inv h) (w : Int32) (wZ : Int) (wE : w.toInt = wZ) (wK : h.1 18 0 = w) (g : Int32) (gZ : Int) (gE : g.toInt = gZ) (gK : h.1 18 1 = g) (x : Int32) (xZ : Int) (xE : x.toInt = xZ) (xK : h.1 18 2 = x) (y : Int32) (yZ : Int) (yE : y.toInt = yZ) (yK : h.1 18 3 = y) : Ct y_Land_copyFrom b_Land_copyFrom 2 none 1 60 [.ref 1, .ref 18] h (q_Land_copyX_0_1 h w wZ g gZ x xZ y yZ) := by
  refine ct_ow R_Land [some (.ref 1), some (.ref 18)] rfl (by decide) rfl (Nat.le_of_ble_eq_true rfl) ?_
  have f0 : fr S_Land_copyX_0_1 h h := fr_rf
  have g1 : 2 ≤ wZ ∧ wZ ≤ 4 := inv_at hI wE wK.symm rfl
  have g2 : 2 ≤ gZ ∧ gZ ≤ 4 := inv_at hI gE gK.symm rfl
  refine V_aload_n 0 d_Land_copyFrom_0 rfl rfl ?_
  refine V_aload_n 1 d_Land_copyFrom_1 rfl rfl ?_
  refine N_getK fa_Land_27 sk_18 rfl d_Land_copyFrom_2 wK ?_
  refine N_putI fp_Land_27 sk_1 rfl d_Land_copyFrom_5 (fun h3 eh3 => ?_)
  have hI4 : Inv h3 := inv_put (lo := 2) (hi := 4) hI eh3 rfl wE (by (first | decide +kernel | omega))
  have f5 : fr S_Land_copyX_0_1 h h3 := fr_put f0 eh3 rfl
  refine V_aload_n 0 d_Land_copyFrom_8 rfl rfl ?_
  refine V_aload_n 1 d_Land_copyFrom_9 rfl rfl ?_
  refine N_getK fa_Land_31 sk_18 rfl d_Land_copyFrom_10 (kn_ne eh3 gK (by decide)) ?_
  refine N_putI fp_Land_31 sk_1 rfl d_Land_copyFrom_13 (fun h6 eh6 => ?_)
  have hI7 : Inv h6 := inv_put (lo := 2) (hi := 4) hI4 eh6 rfl gE (by (first | decide +kernel | omega))
  have f8 : fr S_Land_copyX_0_1 h h6 := fr_put f5 eh6 rfl
  refine V_aload_n 0 d_Land_copyFrom_16 rfl rfl ?_
  refine V_aload_n 1 d_Land_copyFrom_17 rfl rfl ?_
  refine N_getK fa_Land_34 sk_18 rfl d_Land_copyFrom_18 (kn_ne eh6 (kn_ne eh3 xK (by decide)) (by decide)) ?_
  refine N_putI fp_Land_34 sk_1 rfl d_Land_copyFrom_21 (fun h9 eh9 => ?_)
  have hI10 : Inv h9 := inv_full hI7 eh9 rfl
  have f11 : fr S_Land_copyX_0_1 h h9 := fr_put f8 eh9 rfl
  refine V_aload_n 0 d_Land_copyFrom_24 rfl rfl ?_
  refine V_aload_n 1 d_Land_copyFrom_25 rfl rfl ?_
  refine N_getK fa_Land_37 sk_18 rfl d_Land_copyFrom_26 (kn_ne eh9 (kn_ne eh6 (kn_ne eh3 yK (by decide)) (by decide)) (by decide)) ?_
  refine N_putI fp_Land_37 sk_1 rfl d_Land_copyFrom_29 (fun h12 eh12 => ?_)
  have hI13 : Inv h12 := inv_full hI10 eh12 rfl
  have f14 : fr S_Land_copyX_0_1 h h12 := fr_put f11 eh12 rfl
  refine V_aload_n 1 d_Land_copyFrom_32 rfl rfl ?_
  refine V_getR fa_Land_9 sk_18 rfl d_Land_copyFrom_33 ?_
  refine V_iconst 0 d_Land_copyFrom_36 (by decide) ?_
  refine V_aload_n 0 d_Land_copyFrom_37 rfl rfl ?_
  refine V_getR fa_Land_9 sk_1 rfl d_Land_copyFrom_38 ?_
  refine V_iconst 0 d_Land_copyFrom_41 (by decide) ?_
  refine V_bipush 16 d_Land_copyFrom_42 (by decide) ?_
  refine N_acopy sk_19 sk_2 tc_0 tc_0 tc_16 (by (first | decide +kernel | omega)) wa_Land_46 wA1 wA2 wA3 d_Land_copyFrom_44 (by decide) (Nat.le_of_ble_eq_true rfl) (fun h15 eh15 => ?_)
  have hI16 : Inv h15 := inv_cpy (n := 16) hI13 eh15 (fun _ => rfl)
  have f17 : fr S_Land_copyX_0_1 h h15 := fr_row f14 eh15 (fun _ => rfl)
  have C18 : rcp h h15 2 19 16 := rcp_now f14 (fun _ => rfl) eh15
  refine V_aload_n 1 d_Land_copyFrom_47 rfl rfl ?_
  refine V_getR fa_Land_15 sk_18 rfl d_Land_copyFrom_48 ?_
  refine V_iconst 0 d_Land_copyFrom_51 (by decide) ?_
  refine V_aload_n 0 d_Land_copyFrom_52 rfl rfl ?_
  refine V_getR fa_Land_15 sk_1 rfl d_Land_copyFrom_53 ?_
  refine V_iconst 0 d_Land_copyFrom_56 (by decide) ?_
  refine V_bipush 16 d_Land_copyFrom_57 (by decide) ?_
  refine N_acopy sk_20 sk_3 tc_0 tc_0 tc_16 (by (first | decide +kernel | omega)) wa_Land_46 wA1 wA2 wA3 d_Land_copyFrom_59 (by decide) (Nat.le_of_ble_eq_true rfl) (fun h19 eh19 => ?_)
  have hI20 : Inv h19 := inv_cpy (n := 16) hI16 eh19 (fun _ => rfl)
  have f21 : fr S_Land_copyX_0_1 h h19 := fr_row f17 eh19 (fun _ => rfl)
  have C22 : rcp h h19 2 19 16 := rcp_row C18 eh19 (by decide)
  have C23 : rcp h h19 3 20 16 := rcp_now f17 (fun _ => rfl) eh19
  refine V_aload_n 1 d_Land_copyFrom_62 rfl rfl ?_
  refine V_getR fa_Land_18 sk_18 rfl d_Land_copyFrom_63 ?_
  refine V_iconst 0 d_Land_copyFrom_66 (by decide) ?_
  refine V_aload_n 0 d_Land_copyFrom_67 rfl rfl ?_
  refine V_getR fa_Land_18 sk_1 rfl d_Land_copyFrom_68 ?_
  refine V_iconst 0 d_Land_copyFrom_71 (by decide) ?_
  refine V_bipush 16 d_Land_copyFrom_72 (by decide) ?_
  refine N_acopy sk_21 sk_4 tc_0 tc_0 tc_16 (by (first | decide +kernel | omega)) wa_Land_46 wA1 wA2 wA3 d_Land_copyFrom_74 (by decide) (Nat.le_of_ble_eq_true rfl) (fun h24 eh24 => ?_)
  have hI25 : Inv h24 := inv_cpy (n := 16) hI20 eh24 (fun _ => rfl)
  have f26 : fr S_Land_copyX_0_1 h h24 := fr_row f21 eh24 (fun _ => rfl)
  have C27 : rcp h h24 2 19 16 := rcp_row C22 eh24 (by decide)
  have C28 : rcp h h24 3 20 16 := rcp_row C23 eh24 (by decide)
  have C29 : rcp h h24 4 21 16 := rcp_now f21 (fun _ => rfl) eh24
  refine V_aload_n 1 d_Land_copyFrom_77 rfl rfl ?_
  refine V_getR fa_Land_21 sk_18 rfl d_Land_copyFrom_78 ?_
  refine V_iconst 0 d_Land_copyFrom_81 (by decide) ?_
  refine V_aload_n 0 d_Land_copyFrom_82 rfl rfl ?_
  refine V_getR fa_Land_21 sk_1 rfl d_Land_copyFrom_83 ?_
  refine V_iconst 0 d_Land_copyFrom_86 (by decide) ?_
  refine V_bipush 16 d_Land_copyFrom_87 (by decide) ?_
  refine N_acopy sk_22 sk_5 tc_0 tc_0 tc_16 (by (first | decide +kernel | omega)) wa_Land_46 wA1 wA2 wA3 d_Land_copyFrom_89 (by decide) (Nat.le_of_ble_eq_true rfl) (fun h30 eh30 => ?_)
  have hI31 : Inv h30 := inv_cpy (n := 16) hI25 eh30 (fun _ => rfl)
  have f32 : fr S_Land_copyX_0_1 h h30 := fr_row f26 eh30 (fun _ => rfl)
  have C33 : rcp h h30 2 19 16 := rcp_row C27 eh30 (by decide)
  have C34 : rcp h h30 3 20 16 := rcp_row C28 eh30 (by decide)
  have C35 : rcp h h30 4 21 16 := rcp_row C29 eh30 (by decide)
  have C36 : rcp h h30 5 22 16 := rcp_now f26 (fun _ => rfl) eh30
  refine V_aload_n 1 d_Land_copyFrom_92 rfl rfl ?_
  refine V_getR fa_Land_24 sk_18 rfl d_Land_copyFrom_93 ?_
  refine V_iconst 0 d_Land_copyFrom_96 (by decide) ?_
  refine V_aload_n 0 d_Land_copyFrom_97 rfl rfl ?_
  refine V_getR fa_Land_24 sk_1 rfl d_Land_copyFrom_98 ?_
  refine V_iconst 0 d_Land_copyFrom_101 (by decide) ?_
  refine V_bipush 16 d_Land_copyFrom_102 (by decide) ?_
  refine N_acopy sk_23 sk_6 tc_0 tc_0 tc_16 (by (first | decide +kernel | omega)) wa_Land_46 wA1 wA2 wA3 d_Land_copyFrom_104 (by decide) (Nat.le_of_ble_eq_true rfl) (fun h37 eh37 => ?_)
  have hI38 : Inv h37 := inv_cpy (n := 16) hI31 eh37 (fun _ => rfl)
  have f39 : fr S_Land_copyX_0_1 h h37 := fr_row f32 eh37 (fun _ => rfl)
  have C40 : rcp h h37 2 19 16 := rcp_row C33 eh37 (by decide)
  have C41 : rcp h h37 3 20 16 := rcp_row C34 eh37 (by decide)
  have C42 : rcp h h37 4 21 16 := rcp_row C35 eh37 (by decide)
  have C43 : rcp h h37 5 22 16 := rcp_row C36 eh37 (by decide)
  have C44 : rcp h h37 6 23 16 := rcp_now f32 (fun _ => rfl) eh37
  exact V_vret rfl d_Land_copyFrom_107 ⟨rfl, ⟨hI38, f39, ⟨((kn_row eh37 (kn_row eh30 (kn_row eh24 (kn_row eh19 (kn_row eh15 (kn_nei eh12 (kn_nei eh9 (kn_nei eh6 (kn_put eh3) (by decide)) (by decide)) (by decide)) (by decide)) (by decide)) (by decide)) (by decide)) (by decide)).trans wK.symm), ((kn_row eh37 (kn_row eh30 (kn_row eh24 (kn_row eh19 (kn_row eh15 (kn_nei eh12 (kn_nei eh9 (kn_put eh6) (by decide)) (by decide)) (by decide)) (by decide)) (by decide)) (by decide)) (by decide)).trans gK.symm), ((kn_row eh37 (kn_row eh30 (kn_row eh24 (kn_row eh19 (kn_row eh15 (kn_nei eh12 (kn_put eh9) (by decide)) (by decide)) (by decide)) (by decide)) (by decide)) (by decide)).trans xK.symm), ((kn_row eh37 (kn_row eh30 (kn_row eh24 (kn_row eh19 (kn_row eh15 (kn_put eh12) (by decide)) (by decide)) (by decide)) (by decide)) (by decide)).trans yK.symm), C40, C41, C42, C43, C44⟩⟩⟩
def S_Ledger_copyX_0_1 : List (Nat × Option Nat) := [(7, some 4), (8, none), (9, none), (10, none), (11, none)]
abbrev q_Ledger_copyX_0_1 (h : Hp) (t : Int32) (tZ : Int) : Option Value → Hp → Prop := pVd (fun h' => Inv h' ∧ fr S_Ledger_copyX_0_1 h h' ∧ (h'.1 7 4 = h.1 24 4 ∧ rcp h h' 8 25 4 ∧ rcp h h' 9 26 8 ∧ rcp h h' 10 27 8 ∧ rcp h h' 11 28 8))
set_option maxRecDepth 100000 in
theorem c_Ledger_copyX_0_1 (h : Hp) (hI : Inv h) (t : Int32) (tZ : Int) (tE : t.toInt = tZ) (tK : h.1 24 4 = t) : Ct y_Ledger_copyFrom b_Ledger_copyFrom 2 none 1 60 [.ref 7, .ref 24] h (q_Ledger_copyX_0_1 h t tZ) := by
  refine ct_ow R_Ledger [some (.ref 7), some (.ref 24)] rfl (by decide) rfl (Nat.le_of_ble_eq_true rfl) ?_
  have f0 : fr S_Ledger_copyX_0_1 h h := fr_rf
  have g1 : 0 ≤ tZ ∧ tZ ≤ 8 := inv_at hI tE tK.symm rfl
  refine V_aload_n 1 d_Ledger_copyFrom_0 rfl rfl ?_
  refine V_getR fa_Ledger_9 sk_24 rfl d_Ledger_copyFrom_1 ?_
  refine V_iconst 0 d_Ledger_copyFrom_4 (by decide) ?_
  refine V_aload_n 0 d_Ledger_copyFrom_5 rfl rfl ?_
  refine V_getR fa_Ledger_9 sk_7 rfl d_Ledger_copyFrom_6 ?_
  refine V_iconst 0 d_Ledger_copyFrom_9 (by decide) ?_
  refine V_iconst 4 d_Ledger_copyFrom_10 (by decide) ?_
  refine N_acopy sk_25 sk_8 tc_0 tc_0 tc_4 (by (first | decide +kernel | omega)) wa_Ledger_34 wA1 wA2 wA3 d_Ledger_copyFrom_11 (by decide) (Nat.le_of_ble_eq_true rfl) (fun h2 eh2 => ?_)
  have hI3 : Inv h2 := inv_cpy (n := 4) hI eh2 (fun _ => rfl)
  have f4 : fr S_Ledger_copyX_0_1 h h2 := fr_row f0 eh2 (fun _ => rfl)
  have C5 : rcp h h2 8 25 4 := rcp_now f0 (fun _ => rfl) eh2
  refine V_aload_n 1 d_Ledger_copyFrom_14 rfl rfl ?_
  refine V_getR fa_Ledger_15 sk_24 rfl d_Ledger_copyFrom_15 ?_
  refine V_iconst 0 d_Ledger_copyFrom_18 (by decide) ?_
  refine V_aload_n 0 d_Ledger_copyFrom_19 rfl rfl ?_
  refine V_getR fa_Ledger_15 sk_7 rfl d_Ledger_copyFrom_20 ?_
  refine V_iconst 0 d_Ledger_copyFrom_23 (by decide) ?_
  refine V_bipush 8 d_Ledger_copyFrom_24 (by decide) ?_
  refine N_acopy sk_26 sk_9 tc_0 tc_0 tc_8 (by (first | decide +kernel | omega)) wa_Ledger_34 wA1 wA2 wA3 d_Ledger_copyFrom_26 (by decide) (Nat.le_of_ble_eq_true rfl) (fun h6 eh6 => ?_)
  have hI7 : Inv h6 := inv_cpy (n := 8) hI3 eh6 (fun _ => rfl)
  have f8 : fr S_Ledger_copyX_0_1 h h6 := fr_row f4 eh6 (fun _ => rfl)
  have C9 : rcp h h6 8 25 4 := rcp_row C5 eh6 (by decide)
  have C10 : rcp h h6 9 26 8 := rcp_now f4 (fun _ => rfl) eh6
  refine V_aload_n 1 d_Ledger_copyFrom_29 rfl rfl ?_
  refine V_getR fa_Ledger_18 sk_24 rfl d_Ledger_copyFrom_30 ?_
  refine V_iconst 0 d_Ledger_copyFrom_33 (by decide) ?_
  refine V_aload_n 0 d_Ledger_copyFrom_34 rfl rfl ?_
  refine V_getR fa_Ledger_18 sk_7 rfl d_Ledger_copyFrom_35 ?_
  refine V_iconst 0 d_Ledger_copyFrom_38 (by decide) ?_
  refine V_bipush 8 d_Ledger_copyFrom_39 (by decide) ?_
  refine N_acopy sk_27 sk_10 tc_0 tc_0 tc_8 (by (first | decide +kernel | omega)) wa_Ledger_34 wA1 wA2 wA3 d_Ledger_copyFrom_41 (by decide) (Nat.le_of_ble_eq_true rfl) (fun h11 eh11 => ?_)
  have hI12 : Inv h11 := inv_cpy (n := 8) hI7 eh11 (fun _ => rfl)
  have f13 : fr S_Ledger_copyX_0_1 h h11 := fr_row f8 eh11 (fun _ => rfl)
  have C14 : rcp h h11 8 25 4 := rcp_row C9 eh11 (by decide)
  have C15 : rcp h h11 9 26 8 := rcp_row C10 eh11 (by decide)
  have C16 : rcp h h11 10 27 8 := rcp_now f8 (fun _ => rfl) eh11
  refine V_aload_n 1 d_Ledger_copyFrom_44 rfl rfl ?_
  refine V_getR fa_Ledger_21 sk_24 rfl d_Ledger_copyFrom_45 ?_
  refine V_iconst 0 d_Ledger_copyFrom_48 (by decide) ?_
  refine V_aload_n 0 d_Ledger_copyFrom_49 rfl rfl ?_
  refine V_getR fa_Ledger_21 sk_7 rfl d_Ledger_copyFrom_50 ?_
  refine V_iconst 0 d_Ledger_copyFrom_53 (by decide) ?_
  refine V_bipush 8 d_Ledger_copyFrom_54 (by decide) ?_
  refine N_acopy sk_28 sk_11 tc_0 tc_0 tc_8 (by (first | decide +kernel | omega)) wa_Ledger_34 wA1 wA2 wA3 d_Ledger_copyFrom_56 (by decide) (Nat.le_of_ble_eq_true rfl) (fun h17 eh17 => ?_)
  have hI18 : Inv h17 := inv_cpy (n := 8) hI12 eh17 (fun _ => rfl)
  have f19 : fr S_Ledger_copyX_0_1 h h17 := fr_row f13 eh17 (fun _ => rfl)
  have C20 : rcp h h17 8 25 4 := rcp_row C14 eh17 (by decide)
  have C21 : rcp h h17 9 26 8 := rcp_row C15 eh17 (by decide)
  have C22 : rcp h h17 10 27 8 := rcp_row C16 eh17 (by decide)
  have C23 : rcp h h17 11 28 8 := rcp_now f13 (fun _ => rfl) eh17
  refine V_aload_n 0 d_Ledger_copyFrom_59 rfl rfl ?_
  refine V_aload_n 1 d_Ledger_copyFrom_60 rfl rfl ?_
  refine N_getK fa_Ledger_30 sk_24 rfl d_Ledger_copyFrom_61 (kn_row eh17 (kn_row eh11 (kn_row eh6 (kn_row eh2 tK (by decide)) (by decide)) (by decide)) (by decide)) ?_
  refine N_putI fp_Ledger_30 sk_7 rfl d_Ledger_copyFrom_64 (fun h24 eh24 => ?_)
  have hI25 : Inv h24 := inv_put (lo := 0) (hi := 8) hI18 eh24 rfl tE (by (first | decide +kernel | omega))
  have f26 : fr S_Ledger_copyX_0_1 h h24 := fr_put f19 eh24 rfl
  have C27 : rcp h h24 8 25 4 := rcp_put C20 eh24 (by decide)
  have C28 : rcp h h24 9 26 8 := rcp_put C21 eh24 (by decide)
  have C29 : rcp h h24 10 27 8 := rcp_put C22 eh24 (by decide)
  have C30 : rcp h h24 11 28 8 := rcp_put C23 eh24 (by decide)
  exact V_vret rfl d_Ledger_copyFrom_67 ⟨rfl, ⟨hI25, f26, ⟨((kn_put eh24).trans tK.symm), C27, C28, C29, C30⟩⟩⟩
def S_Sights_copyX_0_1 : List (Nat × Option Nat) := [(12, some 4), (13, none), (14, none), (15, none), (16, none)]
abbrev q_Sights_copyX_0_1 (h : Hp) (t : Int32) (tZ : Int) : Option Value → Hp → Prop := pVd (fun h' => Inv h' ∧ fr S_Sights_copyX_0_1 h h' ∧ (h'.1 12 4 = h.1 29 4 ∧ rcp h h' 13 30 8 ∧ rcp h h' 14 31 8 ∧ rcp h h' 15 32 8 ∧ rcp h h' 16 33 8))
set_option maxRecDepth 100000 in
theorem c_Sights_copyX_0_1 (h : Hp) (hI : Inv h) (t : Int32) (tZ : Int) (tE : t.toInt = tZ) (tK : h.1 29 4 = t) : Ct y_Sights_copyFrom b_Sights_copyFrom 2 none 1 60 [.ref 12, .ref 29] h (q_Sights_copyX_0_1 h t tZ) := by
  refine ct_ow R_Sights [some (.ref 12), some (.ref 29)] rfl (by decide) rfl (Nat.le_of_ble_eq_true rfl) ?_
  have f0 : fr S_Sights_copyX_0_1 h h := fr_rf
  have g1 : 0 ≤ tZ ∧ tZ ≤ 8 := inv_at hI tE tK.symm rfl
  refine V_aload_n 1 d_Sights_copyFrom_0 rfl rfl ?_
  refine V_getR fa_Sights_9 sk_29 rfl d_Sights_copyFrom_1 ?_
  refine V_iconst 0 d_Sights_copyFrom_4 (by decide) ?_
  refine V_aload_n 0 d_Sights_copyFrom_5 rfl rfl ?_
  refine V_getR fa_Sights_9 sk_12 rfl d_Sights_copyFrom_6 ?_
  refine V_iconst 0 d_Sights_copyFrom_9 (by decide) ?_
  refine V_bipush 8 d_Sights_copyFrom_10 (by decide) ?_
  refine N_acopy sk_30 sk_13 tc_0 tc_0 tc_8 (by (first | decide +kernel | omega)) wa_Sights_24 wA1 wA2 wA3 d_Sights_copyFrom_12 (by decide) (Nat.le_of_ble_eq_true rfl) (fun h2 eh2 => ?_)
  have hI3 : Inv h2 := inv_cpy (n := 8) hI eh2 (fun _ => rfl)
  have f4 : fr S_Sights_copyX_0_1 h h2 := fr_row f0 eh2 (fun _ => rfl)
  have C5 : rcp h h2 13 30 8 := rcp_now f0 (fun _ => rfl) eh2
  refine V_aload_n 1 d_Sights_copyFrom_15 rfl rfl ?_
  refine V_getR fa_Sights_15 sk_29 rfl d_Sights_copyFrom_16 ?_
  refine V_iconst 0 d_Sights_copyFrom_19 (by decide) ?_
  refine V_aload_n 0 d_Sights_copyFrom_20 rfl rfl ?_
  refine V_getR fa_Sights_15 sk_12 rfl d_Sights_copyFrom_21 ?_
  refine V_iconst 0 d_Sights_copyFrom_24 (by decide) ?_
  refine V_bipush 8 d_Sights_copyFrom_25 (by decide) ?_
  refine N_acopy sk_31 sk_14 tc_0 tc_0 tc_8 (by (first | decide +kernel | omega)) wa_Sights_24 wA1 wA2 wA3 d_Sights_copyFrom_27 (by decide) (Nat.le_of_ble_eq_true rfl) (fun h6 eh6 => ?_)
  have hI7 : Inv h6 := inv_cpy (n := 8) hI3 eh6 (fun _ => rfl)
  have f8 : fr S_Sights_copyX_0_1 h h6 := fr_row f4 eh6 (fun _ => rfl)
  have C9 : rcp h h6 13 30 8 := rcp_row C5 eh6 (by decide)
  have C10 : rcp h h6 14 31 8 := rcp_now f4 (fun _ => rfl) eh6
  refine V_aload_n 1 d_Sights_copyFrom_30 rfl rfl ?_
  refine V_getR fa_Sights_18 sk_29 rfl d_Sights_copyFrom_31 ?_
  refine V_iconst 0 d_Sights_copyFrom_34 (by decide) ?_
  refine V_aload_n 0 d_Sights_copyFrom_35 rfl rfl ?_
  refine V_getR fa_Sights_18 sk_12 rfl d_Sights_copyFrom_36 ?_
  refine V_iconst 0 d_Sights_copyFrom_39 (by decide) ?_
  refine V_bipush 8 d_Sights_copyFrom_40 (by decide) ?_
  refine N_acopy sk_32 sk_15 tc_0 tc_0 tc_8 (by (first | decide +kernel | omega)) wa_Sights_24 wA1 wA2 wA3 d_Sights_copyFrom_42 (by decide) (Nat.le_of_ble_eq_true rfl) (fun h11 eh11 => ?_)
  have hI12 : Inv h11 := inv_cpy (n := 8) hI7 eh11 (fun _ => rfl)
  have f13 : fr S_Sights_copyX_0_1 h h11 := fr_row f8 eh11 (fun _ => rfl)
  have C14 : rcp h h11 13 30 8 := rcp_row C9 eh11 (by decide)
  have C15 : rcp h h11 14 31 8 := rcp_row C10 eh11 (by decide)
  have C16 : rcp h h11 15 32 8 := rcp_now f8 (fun _ => rfl) eh11
  refine V_aload_n 1 d_Sights_copyFrom_45 rfl rfl ?_
  refine V_getR fa_Sights_21 sk_29 rfl d_Sights_copyFrom_46 ?_
  refine V_iconst 0 d_Sights_copyFrom_49 (by decide) ?_
  refine V_aload_n 0 d_Sights_copyFrom_50 rfl rfl ?_
  refine V_getR fa_Sights_21 sk_12 rfl d_Sights_copyFrom_51 ?_
  refine V_iconst 0 d_Sights_copyFrom_54 (by decide) ?_
  refine V_bipush 8 d_Sights_copyFrom_55 (by decide) ?_
  refine N_acopy sk_33 sk_16 tc_0 tc_0 tc_8 (by (first | decide +kernel | omega)) wa_Sights_24 wA1 wA2 wA3 d_Sights_copyFrom_57 (by decide) (Nat.le_of_ble_eq_true rfl) (fun h17 eh17 => ?_)
  have hI18 : Inv h17 := inv_cpy (n := 8) hI12 eh17 (fun _ => rfl)
  have f19 : fr S_Sights_copyX_0_1 h h17 := fr_row f13 eh17 (fun _ => rfl)
  have C20 : rcp h h17 13 30 8 := rcp_row C14 eh17 (by decide)
  have C21 : rcp h h17 14 31 8 := rcp_row C15 eh17 (by decide)
  have C22 : rcp h h17 15 32 8 := rcp_row C16 eh17 (by decide)
  have C23 : rcp h h17 16 33 8 := rcp_now f13 (fun _ => rfl) eh17
  refine V_aload_n 0 d_Sights_copyFrom_60 rfl rfl ?_
  refine V_aload_n 1 d_Sights_copyFrom_61 rfl rfl ?_
  refine N_getK fa_Sights_30 sk_29 rfl d_Sights_copyFrom_62 (kn_row eh17 (kn_row eh11 (kn_row eh6 (kn_row eh2 tK (by decide)) (by decide)) (by decide)) (by decide)) ?_
  refine N_putI fp_Sights_30 sk_12 rfl d_Sights_copyFrom_65 (fun h24 eh24 => ?_)
  have hI25 : Inv h24 := inv_put (lo := 0) (hi := 8) hI18 eh24 rfl tE (by (first | decide +kernel | omega))
  have f26 : fr S_Sights_copyX_0_1 h h24 := fr_put f19 eh24 rfl
  have C27 : rcp h h24 13 30 8 := rcp_put C20 eh24 (by decide)
  have C28 : rcp h h24 14 31 8 := rcp_put C21 eh24 (by decide)
  have C29 : rcp h h24 15 32 8 := rcp_put C22 eh24 (by decide)
  have C30 : rcp h h24 16 33 8 := rcp_put C23 eh24 (by decide)
  exact V_vret rfl d_Sights_copyFrom_68 ⟨rfl, ⟨hI25, f26, ⟨((kn_put eh24).trans tK.symm), C27, C28, C29, C30⟩⟩⟩
def S_County_copyX_0_1 : List (Nat × Option Nat) := [(0, some 3), (0, some 4), (1, none), (2, none), (3, none), (4, none), (5, none), (6, none), (7, some 4), (8, none), (9, none), (10, none), (11, none), (12, some 4), (13, none), (14, none), (15, none), (16, none)]
abbrev q_County_copyX_0_1 (h : Hp) (n : Int32) (nZ : Int) (m : Int32) (mZ : Int) : Option Value → Hp → Prop := pVd (fun h' => Inv h' ∧ fr S_County_copyX_0_1 h h' ∧ (cpy h h' 0 17))
set_option maxRecDepth 100000 in
theorem c_County_copyX_0_1 (h : Hp) (hI : Inv h) (n : Int32) (nZ : Int) (nE : n.toInt = nZ) (nK : h.1 17 3 = n) (m : Int32) (mZ : Int) (mE : m.toInt = mZ) (mK : h.1 17 4 = m) : Ct y_County_copyFrom b_County_copyFrom 2 none 2 81 [.ref 0, .ref 17] h (q_County_copyX_0_1 h n nZ m mZ) := by
  refine ct_ow R_County [some (.ref 0), some (.ref 17)] rfl (by decide) rfl (Nat.le_of_ble_eq_true rfl) ?_
  have f0 : fr S_County_copyX_0_1 h h := fr_rf
  refine V_aload_n 0 d_County_copyFrom_0 rfl rfl ?_
  refine V_getR fa_County_12 sk_0 rfl d_County_copyFrom_1 ?_
  refine V_aload_n 1 d_County_copyFrom_4 rfl rfl ?_
  refine V_getR fa_County_12 sk_17 rfl d_County_copyFrom_5 ?_
  obtain ⟨z1, z1Z, z1E, z1e⟩ : ∃ (y : Int32) (Y : Int), y.toInt = Y ∧ y = h.1 18 0 := ⟨_, _, rfl, rfl⟩
  have g2 : 2 ≤ z1Z ∧ z1Z ≤ 4 := inv_at hI z1E z1e rfl
  obtain ⟨z3, z3Z, z3E, z3e⟩ : ∃ (y : Int32) (Y : Int), y.toInt = Y ∧ y = h.1 18 1 := ⟨_, _, rfl, rfl⟩
  have g4 : 2 ≤ z3Z ∧ z3Z ≤ 4 := inv_at hI z3E z3e rfl
  obtain ⟨z5, z5Z, z5E, z5e⟩ : ∃ (y : Int32) (Y : Int), y.toInt = Y ∧ y = h.1 18 2 := ⟨_, _, rfl, rfl⟩
  obtain ⟨z6, z6Z, z6E, z6e⟩ : ∃ (y : Int32) (Y : Int), y.toInt = Y ∧ y = h.1 18 3 := ⟨_, _, rfl, rfl⟩
  refine N_callVV [.ref 18] [] cv_County_47 sk_1 rfl d_County_copyFrom_8 rfl (Nat.le_of_ble_eq_true rfl) (by decide) (by decide) (c_Land_copyX_0_1 h hI z1 z1Z z1E z1e.symm z3 z3Z z3E z3e.symm z5 z5Z z5E z5e.symm z6 z6Z z6E z6e.symm) (fun h8 p9 => ?_)
  obtain ⟨hI10, fh8, p9⟩ := p9
  have f11 : fr S_County_copyX_0_1 h h8 := fr_call f0 fh8 rfl
  have qL := p9
  refine V_aload_n 0 d_County_copyFrom_11 rfl rfl ?_
  refine V_getR fa_County_21 sk_0 rfl d_County_copyFrom_12 ?_
  refine V_aload_n 1 d_County_copyFrom_15 rfl rfl ?_
  refine V_getR fa_County_21 sk_17 rfl d_County_copyFrom_16 ?_
  obtain ⟨z12, z12Z, z12E, z12e⟩ : ∃ (y : Int32) (Y : Int), y.toInt = Y ∧ y = h8.1 24 4 := ⟨_, _, rfl, rfl⟩
  have g13 : 0 ≤ z12Z ∧ z12Z ≤ 8 := inv_at hI10 z12E z12e rfl
  refine N_callVV [.ref 24] [] cv_County_51 sk_7 rfl d_County_copyFrom_19 rfl (Nat.le_of_ble_eq_true rfl) (by decide) (by decide) (c_Ledger_copyX_0_1 h8 hI10 z12 z12Z z12E z12e.symm) (fun h15 p16 => ?_)
  obtain ⟨hI17, fh15, p16⟩ := p16
  have f18 : fr S_County_copyX_0_1 h h15 := fr_call f11 fh15 rfl
  have qG := p16
  refine V_aload_n 0 d_County_copyFrom_22 rfl rfl ?_
  refine V_getR fa_County_28 sk_0 rfl d_County_copyFrom_23 ?_
  refine V_aload_n 1 d_County_copyFrom_26 rfl rfl ?_
  refine V_getR fa_County_28 sk_17 rfl d_County_copyFrom_27 ?_
  obtain ⟨z19, z19Z, z19E, z19e⟩ : ∃ (y : Int32) (Y : Int), y.toInt = Y ∧ y = h15.1 29 4 := ⟨_, _, rfl, rfl⟩
  have g20 : 0 ≤ z19Z ∧ z19Z ≤ 8 := inv_at hI17 z19E z19e rfl
  refine N_callVV [.ref 29] [] cv_County_54 sk_12 rfl d_County_copyFrom_30 rfl (Nat.le_of_ble_eq_true rfl) (by decide) (by decide) (c_Sights_copyX_0_1 h15 hI17 z19 z19Z z19E z19e.symm) (fun h22 p23 => ?_)
  obtain ⟨hI24, fh22, p23⟩ := p23
  have f25 : fr S_County_copyX_0_1 h h22 := fr_call f18 fh22 rfl
  have qS := p23
  refine V_aload_n 0 d_County_copyFrom_33 rfl rfl ?_
  refine V_aload_n 1 d_County_copyFrom_34 rfl rfl ?_
  refine N_getK fa_County_41 sk_17 rfl d_County_copyFrom_35 (kn_call fh22 (kn_call fh15 (kn_call fh8 nK rfl) rfl) rfl) ?_
  refine N_putI fp_County_41 sk_0 rfl d_County_copyFrom_38 (fun h26 eh26 => ?_)
  have hI27 : Inv h26 := inv_full hI24 eh26 rfl
  have f28 : fr S_County_copyX_0_1 h h26 := fr_put f25 eh26 rfl
  refine V_aload_n 0 d_County_copyFrom_41 rfl rfl ?_
  refine V_aload_n 1 d_County_copyFrom_42 rfl rfl ?_
  refine N_getK fa_County_44 sk_17 rfl d_County_copyFrom_43 (kn_ne eh26 (kn_call fh22 (kn_call fh15 (kn_call fh8 mK rfl) rfl) rfl) (by decide)) ?_
  refine N_putI fp_County_44 sk_0 rfl d_County_copyFrom_46 (fun h29 eh29 => ?_)
  have hI30 : Inv h29 := inv_full hI27 eh29 rfl
  have f31 : fr S_County_copyX_0_1 h h29 := fr_put f28 eh29 rfl
  exact V_vret rfl d_County_copyFrom_49 ⟨rfl, ⟨hI30, f31, (cpy_of (a := 0) (b := 17) qL fh15 qG fh22 qS fh8 eh26 eh29 nK mK rfl rfl rfl rfl)⟩⟩
def S_Land_copyX_2_0 : List (Nat × Option Nat) := [(35, none), (36, none), (37, none), (38, none), (39, none), (40, none)]
abbrev q_Land_copyX_2_0 (h : Hp) (w : Int32) (wZ : Int) (g : Int32) (gZ : Int) (x : Int32) (xZ : Int) (y : Int32) (yZ : Int) : Option Value → Hp → Prop := pVd (fun h' => Inv h' ∧ fr S_Land_copyX_2_0 h h' ∧ (h'.1 35 0 = h.1 1 0 ∧ h'.1 35 1 = h.1 1 1 ∧ h'.1 35 2 = h.1 1 2 ∧ h'.1 35 3 = h.1 1 3 ∧ rcp h h' 36 2 16 ∧ rcp h h' 37 3 16 ∧ rcp h h' 38 4 16 ∧ rcp h h' 39 5 16 ∧ rcp h h' 40 6 16))
set_option maxRecDepth 100000 in
theorem c_Land_copyX_2_0 (h : Hp) (hI : Inv h) (w : Int32) (wZ : Int) (wE : w.toInt = wZ) (wK : h.1 1 0 = w) (g : Int32) (gZ : Int) (gE : g.toInt = gZ) (gK : h.1 1 1 = g) (x : Int32) (xZ : Int) (xE : x.toInt = xZ) (xK : h.1 1 2 = x) (y : Int32) (yZ : Int) (yE : y.toInt = yZ) (yK : h.1 1 3 = y) : Ct y_Land_copyFrom b_Land_copyFrom 2 none 1 60 [.ref 35, .ref 1] h (q_Land_copyX_2_0 h w wZ g gZ x xZ y yZ) := by
  refine ct_ow R_Land [some (.ref 35), some (.ref 1)] rfl (by decide) rfl (Nat.le_of_ble_eq_true rfl) ?_
  have f0 : fr S_Land_copyX_2_0 h h := fr_rf
  have g1 : 2 ≤ wZ ∧ wZ ≤ 4 := inv_at hI wE wK.symm rfl
  have g2 : 2 ≤ gZ ∧ gZ ≤ 4 := inv_at hI gE gK.symm rfl
  refine V_aload_n 0 d_Land_copyFrom_0 rfl rfl ?_
  refine V_aload_n 1 d_Land_copyFrom_1 rfl rfl ?_
  refine N_getK fa_Land_27 sk_1 rfl d_Land_copyFrom_2 wK ?_
  refine N_putI fp_Land_27 sk_35 rfl d_Land_copyFrom_5 (fun h3 eh3 => ?_)
  have hI4 : Inv h3 := inv_put (lo := 2) (hi := 4) hI eh3 rfl wE (by (first | decide +kernel | omega))
  have f5 : fr S_Land_copyX_2_0 h h3 := fr_put f0 eh3 rfl
  refine V_aload_n 0 d_Land_copyFrom_8 rfl rfl ?_
  refine V_aload_n 1 d_Land_copyFrom_9 rfl rfl ?_
  refine N_getK fa_Land_31 sk_1 rfl d_Land_copyFrom_10 (kn_ne eh3 gK (by decide)) ?_
  refine N_putI fp_Land_31 sk_35 rfl d_Land_copyFrom_13 (fun h6 eh6 => ?_)
  have hI7 : Inv h6 := inv_put (lo := 2) (hi := 4) hI4 eh6 rfl gE (by (first | decide +kernel | omega))
  have f8 : fr S_Land_copyX_2_0 h h6 := fr_put f5 eh6 rfl
  refine V_aload_n 0 d_Land_copyFrom_16 rfl rfl ?_
  refine V_aload_n 1 d_Land_copyFrom_17 rfl rfl ?_
  refine N_getK fa_Land_34 sk_1 rfl d_Land_copyFrom_18 (kn_ne eh6 (kn_ne eh3 xK (by decide)) (by decide)) ?_
  refine N_putI fp_Land_34 sk_35 rfl d_Land_copyFrom_21 (fun h9 eh9 => ?_)
  have hI10 : Inv h9 := inv_full hI7 eh9 rfl
  have f11 : fr S_Land_copyX_2_0 h h9 := fr_put f8 eh9 rfl
  refine V_aload_n 0 d_Land_copyFrom_24 rfl rfl ?_
  refine V_aload_n 1 d_Land_copyFrom_25 rfl rfl ?_
  refine N_getK fa_Land_37 sk_1 rfl d_Land_copyFrom_26 (kn_ne eh9 (kn_ne eh6 (kn_ne eh3 yK (by decide)) (by decide)) (by decide)) ?_
  refine N_putI fp_Land_37 sk_35 rfl d_Land_copyFrom_29 (fun h12 eh12 => ?_)
  have hI13 : Inv h12 := inv_full hI10 eh12 rfl
  have f14 : fr S_Land_copyX_2_0 h h12 := fr_put f11 eh12 rfl
  refine V_aload_n 1 d_Land_copyFrom_32 rfl rfl ?_
  refine V_getR fa_Land_9 sk_1 rfl d_Land_copyFrom_33 ?_
  refine V_iconst 0 d_Land_copyFrom_36 (by decide) ?_
  refine V_aload_n 0 d_Land_copyFrom_37 rfl rfl ?_
  refine V_getR fa_Land_9 sk_35 rfl d_Land_copyFrom_38 ?_
  refine V_iconst 0 d_Land_copyFrom_41 (by decide) ?_
  refine V_bipush 16 d_Land_copyFrom_42 (by decide) ?_
  refine N_acopy sk_2 sk_36 tc_0 tc_0 tc_16 (by (first | decide +kernel | omega)) wa_Land_46 wA1 wA2 wA3 d_Land_copyFrom_44 (by decide) (Nat.le_of_ble_eq_true rfl) (fun h15 eh15 => ?_)
  have hI16 : Inv h15 := inv_cpy (n := 16) hI13 eh15 (fun _ => rfl)
  have f17 : fr S_Land_copyX_2_0 h h15 := fr_row f14 eh15 (fun _ => rfl)
  have C18 : rcp h h15 36 2 16 := rcp_now f14 (fun _ => rfl) eh15
  refine V_aload_n 1 d_Land_copyFrom_47 rfl rfl ?_
  refine V_getR fa_Land_15 sk_1 rfl d_Land_copyFrom_48 ?_
  refine V_iconst 0 d_Land_copyFrom_51 (by decide) ?_
  refine V_aload_n 0 d_Land_copyFrom_52 rfl rfl ?_
  refine V_getR fa_Land_15 sk_35 rfl d_Land_copyFrom_53 ?_
  refine V_iconst 0 d_Land_copyFrom_56 (by decide) ?_
  refine V_bipush 16 d_Land_copyFrom_57 (by decide) ?_
  refine N_acopy sk_3 sk_37 tc_0 tc_0 tc_16 (by (first | decide +kernel | omega)) wa_Land_46 wA1 wA2 wA3 d_Land_copyFrom_59 (by decide) (Nat.le_of_ble_eq_true rfl) (fun h19 eh19 => ?_)
  have hI20 : Inv h19 := inv_cpy (n := 16) hI16 eh19 (fun _ => rfl)
  have f21 : fr S_Land_copyX_2_0 h h19 := fr_row f17 eh19 (fun _ => rfl)
  have C22 : rcp h h19 36 2 16 := rcp_row C18 eh19 (by decide)
  have C23 : rcp h h19 37 3 16 := rcp_now f17 (fun _ => rfl) eh19
  refine V_aload_n 1 d_Land_copyFrom_62 rfl rfl ?_
  refine V_getR fa_Land_18 sk_1 rfl d_Land_copyFrom_63 ?_
  refine V_iconst 0 d_Land_copyFrom_66 (by decide) ?_
  refine V_aload_n 0 d_Land_copyFrom_67 rfl rfl ?_
  refine V_getR fa_Land_18 sk_35 rfl d_Land_copyFrom_68 ?_
  refine V_iconst 0 d_Land_copyFrom_71 (by decide) ?_
  refine V_bipush 16 d_Land_copyFrom_72 (by decide) ?_
  refine N_acopy sk_4 sk_38 tc_0 tc_0 tc_16 (by (first | decide +kernel | omega)) wa_Land_46 wA1 wA2 wA3 d_Land_copyFrom_74 (by decide) (Nat.le_of_ble_eq_true rfl) (fun h24 eh24 => ?_)
  have hI25 : Inv h24 := inv_cpy (n := 16) hI20 eh24 (fun _ => rfl)
  have f26 : fr S_Land_copyX_2_0 h h24 := fr_row f21 eh24 (fun _ => rfl)
  have C27 : rcp h h24 36 2 16 := rcp_row C22 eh24 (by decide)
  have C28 : rcp h h24 37 3 16 := rcp_row C23 eh24 (by decide)
  have C29 : rcp h h24 38 4 16 := rcp_now f21 (fun _ => rfl) eh24
  refine V_aload_n 1 d_Land_copyFrom_77 rfl rfl ?_
  refine V_getR fa_Land_21 sk_1 rfl d_Land_copyFrom_78 ?_
  refine V_iconst 0 d_Land_copyFrom_81 (by decide) ?_
  refine V_aload_n 0 d_Land_copyFrom_82 rfl rfl ?_
  refine V_getR fa_Land_21 sk_35 rfl d_Land_copyFrom_83 ?_
  refine V_iconst 0 d_Land_copyFrom_86 (by decide) ?_
  refine V_bipush 16 d_Land_copyFrom_87 (by decide) ?_
  refine N_acopy sk_5 sk_39 tc_0 tc_0 tc_16 (by (first | decide +kernel | omega)) wa_Land_46 wA1 wA2 wA3 d_Land_copyFrom_89 (by decide) (Nat.le_of_ble_eq_true rfl) (fun h30 eh30 => ?_)
  have hI31 : Inv h30 := inv_cpy (n := 16) hI25 eh30 (fun _ => rfl)
  have f32 : fr S_Land_copyX_2_0 h h30 := fr_row f26 eh30 (fun _ => rfl)
  have C33 : rcp h h30 36 2 16 := rcp_row C27 eh30 (by decide)
  have C34 : rcp h h30 37 3 16 := rcp_row C28 eh30 (by decide)
  have C35 : rcp h h30 38 4 16 := rcp_row C29 eh30 (by decide)
  have C36 : rcp h h30 39 5 16 := rcp_now f26 (fun _ => rfl) eh30
  refine V_aload_n 1 d_Land_copyFrom_92 rfl rfl ?_
  refine V_getR fa_Land_24 sk_1 rfl d_Land_copyFrom_93 ?_
  refine V_iconst 0 d_Land_copyFrom_96 (by decide) ?_
  refine V_aload_n 0 d_Land_copyFrom_97 rfl rfl ?_
  refine V_getR fa_Land_24 sk_35 rfl d_Land_copyFrom_98 ?_
  refine V_iconst 0 d_Land_copyFrom_101 (by decide) ?_
  refine V_bipush 16 d_Land_copyFrom_102 (by decide) ?_
  refine N_acopy sk_6 sk_40 tc_0 tc_0 tc_16 (by (first | decide +kernel | omega)) wa_Land_46 wA1 wA2 wA3 d_Land_copyFrom_104 (by decide) (Nat.le_of_ble_eq_true rfl) (fun h37 eh37 => ?_)
  have hI38 : Inv h37 := inv_cpy (n := 16) hI31 eh37 (fun _ => rfl)
  have f39 : fr S_Land_copyX_2_0 h h37 := fr_row f32 eh37 (fun _ => rfl)
  have C40 : rcp h h37 36 2 16 := rcp_row C33 eh37 (by decide)
  have C41 : rcp h h37 37 3 16 := rcp_row C34 eh37 (by decide)
  have C42 : rcp h h37 38 4 16 := rcp_row C35 eh37 (by decide)
  have C43 : rcp h h37 39 5 16 := rcp_row C36 eh37 (by decide)
  have C44 : rcp h h37 40 6 16 := rcp_now f32 (fun _ => rfl) eh37
  exact V_vret rfl d_Land_copyFrom_107 ⟨rfl, ⟨hI38, f39, ⟨((kn_row eh37 (kn_row eh30 (kn_row eh24 (kn_row eh19 (kn_row eh15 (kn_nei eh12 (kn_nei eh9 (kn_nei eh6 (kn_put eh3) (by decide)) (by decide)) (by decide)) (by decide)) (by decide)) (by decide)) (by decide)) (by decide)).trans wK.symm), ((kn_row eh37 (kn_row eh30 (kn_row eh24 (kn_row eh19 (kn_row eh15 (kn_nei eh12 (kn_nei eh9 (kn_put eh6) (by decide)) (by decide)) (by decide)) (by decide)) (by decide)) (by decide)) (by decide)).trans gK.symm), ((kn_row eh37 (kn_row eh30 (kn_row eh24 (kn_row eh19 (kn_row eh15 (kn_nei eh12 (kn_put eh9) (by decide)) (by decide)) (by decide)) (by decide)) (by decide)) (by decide)).trans xK.symm), ((kn_row eh37 (kn_row eh30 (kn_row eh24 (kn_row eh19 (kn_row eh15 (kn_put eh12) (by decide)) (by decide)) (by decide)) (by decide)) (by decide)).trans yK.symm), C40, C41, C42, C43, C44⟩⟩⟩
def S_Ledger_copyX_2_0 : List (Nat × Option Nat) := [(41, some 4), (42, none), (43, none), (44, none), (45, none)]
abbrev q_Ledger_copyX_2_0 (h : Hp) (t : Int32) (tZ : Int) : Option Value → Hp → Prop := pVd (fun h' => Inv h' ∧ fr S_Ledger_copyX_2_0 h h' ∧ (h'.1 41 4 = h.1 7 4 ∧ rcp h h' 42 8 4 ∧ rcp h h' 43 9 8 ∧ rcp h h' 44 10 8 ∧ rcp h h' 45 11 8))
set_option maxRecDepth 100000 in
theorem c_Ledger_copyX_2_0 (h : Hp) (hI : Inv h) (t : Int32) (tZ : Int) (tE : t.toInt = tZ) (tK : h.1 7 4 = t) : Ct y_Ledger_copyFrom b_Ledger_copyFrom 2 none 1 60 [.ref 41, .ref 7] h (q_Ledger_copyX_2_0 h t tZ) := by
  refine ct_ow R_Ledger [some (.ref 41), some (.ref 7)] rfl (by decide) rfl (Nat.le_of_ble_eq_true rfl) ?_
  have f0 : fr S_Ledger_copyX_2_0 h h := fr_rf
  have g1 : 0 ≤ tZ ∧ tZ ≤ 8 := inv_at hI tE tK.symm rfl
  refine V_aload_n 1 d_Ledger_copyFrom_0 rfl rfl ?_
  refine V_getR fa_Ledger_9 sk_7 rfl d_Ledger_copyFrom_1 ?_
  refine V_iconst 0 d_Ledger_copyFrom_4 (by decide) ?_
  refine V_aload_n 0 d_Ledger_copyFrom_5 rfl rfl ?_
  refine V_getR fa_Ledger_9 sk_41 rfl d_Ledger_copyFrom_6 ?_
  refine V_iconst 0 d_Ledger_copyFrom_9 (by decide) ?_
  refine V_iconst 4 d_Ledger_copyFrom_10 (by decide) ?_
  refine N_acopy sk_8 sk_42 tc_0 tc_0 tc_4 (by (first | decide +kernel | omega)) wa_Ledger_34 wA1 wA2 wA3 d_Ledger_copyFrom_11 (by decide) (Nat.le_of_ble_eq_true rfl) (fun h2 eh2 => ?_)
  have hI3 : Inv h2 := inv_cpy (n := 4) hI eh2 (fun _ => rfl)
  have f4 : fr S_Ledger_copyX_2_0 h h2 := fr_row f0 eh2 (fun _ => rfl)
  have C5 : rcp h h2 42 8 4 := rcp_now f0 (fun _ => rfl) eh2
  refine V_aload_n 1 d_Ledger_copyFrom_14 rfl rfl ?_
  refine V_getR fa_Ledger_15 sk_7 rfl d_Ledger_copyFrom_15 ?_
  refine V_iconst 0 d_Ledger_copyFrom_18 (by decide) ?_
  refine V_aload_n 0 d_Ledger_copyFrom_19 rfl rfl ?_
  refine V_getR fa_Ledger_15 sk_41 rfl d_Ledger_copyFrom_20 ?_
  refine V_iconst 0 d_Ledger_copyFrom_23 (by decide) ?_
  refine V_bipush 8 d_Ledger_copyFrom_24 (by decide) ?_
  refine N_acopy sk_9 sk_43 tc_0 tc_0 tc_8 (by (first | decide +kernel | omega)) wa_Ledger_34 wA1 wA2 wA3 d_Ledger_copyFrom_26 (by decide) (Nat.le_of_ble_eq_true rfl) (fun h6 eh6 => ?_)
  have hI7 : Inv h6 := inv_cpy (n := 8) hI3 eh6 (fun _ => rfl)
  have f8 : fr S_Ledger_copyX_2_0 h h6 := fr_row f4 eh6 (fun _ => rfl)
  have C9 : rcp h h6 42 8 4 := rcp_row C5 eh6 (by decide)
  have C10 : rcp h h6 43 9 8 := rcp_now f4 (fun _ => rfl) eh6
  refine V_aload_n 1 d_Ledger_copyFrom_29 rfl rfl ?_
  refine V_getR fa_Ledger_18 sk_7 rfl d_Ledger_copyFrom_30 ?_
  refine V_iconst 0 d_Ledger_copyFrom_33 (by decide) ?_
  refine V_aload_n 0 d_Ledger_copyFrom_34 rfl rfl ?_
  refine V_getR fa_Ledger_18 sk_41 rfl d_Ledger_copyFrom_35 ?_
  refine V_iconst 0 d_Ledger_copyFrom_38 (by decide) ?_
  refine V_bipush 8 d_Ledger_copyFrom_39 (by decide) ?_
  refine N_acopy sk_10 sk_44 tc_0 tc_0 tc_8 (by (first | decide +kernel | omega)) wa_Ledger_34 wA1 wA2 wA3 d_Ledger_copyFrom_41 (by decide) (Nat.le_of_ble_eq_true rfl) (fun h11 eh11 => ?_)
  have hI12 : Inv h11 := inv_cpy (n := 8) hI7 eh11 (fun _ => rfl)
  have f13 : fr S_Ledger_copyX_2_0 h h11 := fr_row f8 eh11 (fun _ => rfl)
  have C14 : rcp h h11 42 8 4 := rcp_row C9 eh11 (by decide)
  have C15 : rcp h h11 43 9 8 := rcp_row C10 eh11 (by decide)
  have C16 : rcp h h11 44 10 8 := rcp_now f8 (fun _ => rfl) eh11
  refine V_aload_n 1 d_Ledger_copyFrom_44 rfl rfl ?_
  refine V_getR fa_Ledger_21 sk_7 rfl d_Ledger_copyFrom_45 ?_
  refine V_iconst 0 d_Ledger_copyFrom_48 (by decide) ?_
  refine V_aload_n 0 d_Ledger_copyFrom_49 rfl rfl ?_
  refine V_getR fa_Ledger_21 sk_41 rfl d_Ledger_copyFrom_50 ?_
  refine V_iconst 0 d_Ledger_copyFrom_53 (by decide) ?_
  refine V_bipush 8 d_Ledger_copyFrom_54 (by decide) ?_
  refine N_acopy sk_11 sk_45 tc_0 tc_0 tc_8 (by (first | decide +kernel | omega)) wa_Ledger_34 wA1 wA2 wA3 d_Ledger_copyFrom_56 (by decide) (Nat.le_of_ble_eq_true rfl) (fun h17 eh17 => ?_)
  have hI18 : Inv h17 := inv_cpy (n := 8) hI12 eh17 (fun _ => rfl)
  have f19 : fr S_Ledger_copyX_2_0 h h17 := fr_row f13 eh17 (fun _ => rfl)
  have C20 : rcp h h17 42 8 4 := rcp_row C14 eh17 (by decide)
  have C21 : rcp h h17 43 9 8 := rcp_row C15 eh17 (by decide)
  have C22 : rcp h h17 44 10 8 := rcp_row C16 eh17 (by decide)
  have C23 : rcp h h17 45 11 8 := rcp_now f13 (fun _ => rfl) eh17
  refine V_aload_n 0 d_Ledger_copyFrom_59 rfl rfl ?_
  refine V_aload_n 1 d_Ledger_copyFrom_60 rfl rfl ?_
  refine N_getK fa_Ledger_30 sk_7 rfl d_Ledger_copyFrom_61 (kn_row eh17 (kn_row eh11 (kn_row eh6 (kn_row eh2 tK (by decide)) (by decide)) (by decide)) (by decide)) ?_
  refine N_putI fp_Ledger_30 sk_41 rfl d_Ledger_copyFrom_64 (fun h24 eh24 => ?_)
  have hI25 : Inv h24 := inv_put (lo := 0) (hi := 8) hI18 eh24 rfl tE (by (first | decide +kernel | omega))
  have f26 : fr S_Ledger_copyX_2_0 h h24 := fr_put f19 eh24 rfl
  have C27 : rcp h h24 42 8 4 := rcp_put C20 eh24 (by decide)
  have C28 : rcp h h24 43 9 8 := rcp_put C21 eh24 (by decide)
  have C29 : rcp h h24 44 10 8 := rcp_put C22 eh24 (by decide)
  have C30 : rcp h h24 45 11 8 := rcp_put C23 eh24 (by decide)
  exact V_vret rfl d_Ledger_copyFrom_67 ⟨rfl, ⟨hI25, f26, ⟨((kn_put eh24).trans tK.symm), C27, C28, C29, C30⟩⟩⟩
def S_Sights_copyX_2_0 : List (Nat × Option Nat) := [(46, some 4), (47, none), (48, none), (49, none), (50, none)]
abbrev q_Sights_copyX_2_0 (h : Hp) (t : Int32) (tZ : Int) : Option Value → Hp → Prop := pVd (fun h' => Inv h' ∧ fr S_Sights_copyX_2_0 h h' ∧ (h'.1 46 4 = h.1 12 4 ∧ rcp h h' 47 13 8 ∧ rcp h h' 48 14 8 ∧ rcp h h' 49 15 8 ∧ rcp h h' 50 16 8))
set_option maxRecDepth 100000 in
theorem c_Sights_copyX_2_0 (h : Hp) (hI : Inv h) (t : Int32) (tZ : Int) (tE : t.toInt = tZ) (tK : h.1 12 4 = t) : Ct y_Sights_copyFrom b_Sights_copyFrom 2 none 1 60 [.ref 46, .ref 12] h (q_Sights_copyX_2_0 h t tZ) := by
  refine ct_ow R_Sights [some (.ref 46), some (.ref 12)] rfl (by decide) rfl (Nat.le_of_ble_eq_true rfl) ?_
  have f0 : fr S_Sights_copyX_2_0 h h := fr_rf
  have g1 : 0 ≤ tZ ∧ tZ ≤ 8 := inv_at hI tE tK.symm rfl
  refine V_aload_n 1 d_Sights_copyFrom_0 rfl rfl ?_
  refine V_getR fa_Sights_9 sk_12 rfl d_Sights_copyFrom_1 ?_
  refine V_iconst 0 d_Sights_copyFrom_4 (by decide) ?_
  refine V_aload_n 0 d_Sights_copyFrom_5 rfl rfl ?_
  refine V_getR fa_Sights_9 sk_46 rfl d_Sights_copyFrom_6 ?_
  refine V_iconst 0 d_Sights_copyFrom_9 (by decide) ?_
  refine V_bipush 8 d_Sights_copyFrom_10 (by decide) ?_
  refine N_acopy sk_13 sk_47 tc_0 tc_0 tc_8 (by (first | decide +kernel | omega)) wa_Sights_24 wA1 wA2 wA3 d_Sights_copyFrom_12 (by decide) (Nat.le_of_ble_eq_true rfl) (fun h2 eh2 => ?_)
  have hI3 : Inv h2 := inv_cpy (n := 8) hI eh2 (fun _ => rfl)
  have f4 : fr S_Sights_copyX_2_0 h h2 := fr_row f0 eh2 (fun _ => rfl)
  have C5 : rcp h h2 47 13 8 := rcp_now f0 (fun _ => rfl) eh2
  refine V_aload_n 1 d_Sights_copyFrom_15 rfl rfl ?_
  refine V_getR fa_Sights_15 sk_12 rfl d_Sights_copyFrom_16 ?_
  refine V_iconst 0 d_Sights_copyFrom_19 (by decide) ?_
  refine V_aload_n 0 d_Sights_copyFrom_20 rfl rfl ?_
  refine V_getR fa_Sights_15 sk_46 rfl d_Sights_copyFrom_21 ?_
  refine V_iconst 0 d_Sights_copyFrom_24 (by decide) ?_
  refine V_bipush 8 d_Sights_copyFrom_25 (by decide) ?_
  refine N_acopy sk_14 sk_48 tc_0 tc_0 tc_8 (by (first | decide +kernel | omega)) wa_Sights_24 wA1 wA2 wA3 d_Sights_copyFrom_27 (by decide) (Nat.le_of_ble_eq_true rfl) (fun h6 eh6 => ?_)
  have hI7 : Inv h6 := inv_cpy (n := 8) hI3 eh6 (fun _ => rfl)
  have f8 : fr S_Sights_copyX_2_0 h h6 := fr_row f4 eh6 (fun _ => rfl)
  have C9 : rcp h h6 47 13 8 := rcp_row C5 eh6 (by decide)
  have C10 : rcp h h6 48 14 8 := rcp_now f4 (fun _ => rfl) eh6
  refine V_aload_n 1 d_Sights_copyFrom_30 rfl rfl ?_
  refine V_getR fa_Sights_18 sk_12 rfl d_Sights_copyFrom_31 ?_
  refine V_iconst 0 d_Sights_copyFrom_34 (by decide) ?_
  refine V_aload_n 0 d_Sights_copyFrom_35 rfl rfl ?_
  refine V_getR fa_Sights_18 sk_46 rfl d_Sights_copyFrom_36 ?_
  refine V_iconst 0 d_Sights_copyFrom_39 (by decide) ?_
  refine V_bipush 8 d_Sights_copyFrom_40 (by decide) ?_
  refine N_acopy sk_15 sk_49 tc_0 tc_0 tc_8 (by (first | decide +kernel | omega)) wa_Sights_24 wA1 wA2 wA3 d_Sights_copyFrom_42 (by decide) (Nat.le_of_ble_eq_true rfl) (fun h11 eh11 => ?_)
  have hI12 : Inv h11 := inv_cpy (n := 8) hI7 eh11 (fun _ => rfl)
  have f13 : fr S_Sights_copyX_2_0 h h11 := fr_row f8 eh11 (fun _ => rfl)
  have C14 : rcp h h11 47 13 8 := rcp_row C9 eh11 (by decide)
  have C15 : rcp h h11 48 14 8 := rcp_row C10 eh11 (by decide)
  have C16 : rcp h h11 49 15 8 := rcp_now f8 (fun _ => rfl) eh11
  refine V_aload_n 1 d_Sights_copyFrom_45 rfl rfl ?_
  refine V_getR fa_Sights_21 sk_12 rfl d_Sights_copyFrom_46 ?_
  refine V_iconst 0 d_Sights_copyFrom_49 (by decide) ?_
  refine V_aload_n 0 d_Sights_copyFrom_50 rfl rfl ?_
  refine V_getR fa_Sights_21 sk_46 rfl d_Sights_copyFrom_51 ?_
  refine V_iconst 0 d_Sights_copyFrom_54 (by decide) ?_
  refine V_bipush 8 d_Sights_copyFrom_55 (by decide) ?_
  refine N_acopy sk_16 sk_50 tc_0 tc_0 tc_8 (by (first | decide +kernel | omega)) wa_Sights_24 wA1 wA2 wA3 d_Sights_copyFrom_57 (by decide) (Nat.le_of_ble_eq_true rfl) (fun h17 eh17 => ?_)
  have hI18 : Inv h17 := inv_cpy (n := 8) hI12 eh17 (fun _ => rfl)
  have f19 : fr S_Sights_copyX_2_0 h h17 := fr_row f13 eh17 (fun _ => rfl)
  have C20 : rcp h h17 47 13 8 := rcp_row C14 eh17 (by decide)
  have C21 : rcp h h17 48 14 8 := rcp_row C15 eh17 (by decide)
  have C22 : rcp h h17 49 15 8 := rcp_row C16 eh17 (by decide)
  have C23 : rcp h h17 50 16 8 := rcp_now f13 (fun _ => rfl) eh17
  refine V_aload_n 0 d_Sights_copyFrom_60 rfl rfl ?_
  refine V_aload_n 1 d_Sights_copyFrom_61 rfl rfl ?_
  refine N_getK fa_Sights_30 sk_12 rfl d_Sights_copyFrom_62 (kn_row eh17 (kn_row eh11 (kn_row eh6 (kn_row eh2 tK (by decide)) (by decide)) (by decide)) (by decide)) ?_
  refine N_putI fp_Sights_30 sk_46 rfl d_Sights_copyFrom_65 (fun h24 eh24 => ?_)
  have hI25 : Inv h24 := inv_put (lo := 0) (hi := 8) hI18 eh24 rfl tE (by (first | decide +kernel | omega))
  have f26 : fr S_Sights_copyX_2_0 h h24 := fr_put f19 eh24 rfl
  have C27 : rcp h h24 47 13 8 := rcp_put C20 eh24 (by decide)
  have C28 : rcp h h24 48 14 8 := rcp_put C21 eh24 (by decide)
  have C29 : rcp h h24 49 15 8 := rcp_put C22 eh24 (by decide)
  have C30 : rcp h h24 50 16 8 := rcp_put C23 eh24 (by decide)
  exact V_vret rfl d_Sights_copyFrom_68 ⟨rfl, ⟨hI25, f26, ⟨((kn_put eh24).trans tK.symm), C27, C28, C29, C30⟩⟩⟩
def S_County_copyX_2_0 : List (Nat × Option Nat) := [(34, some 3), (34, some 4), (35, none), (36, none), (37, none), (38, none), (39, none), (40, none), (41, some 4), (42, none), (43, none), (44, none), (45, none), (46, some 4), (47, none), (48, none), (49, none), (50, none)]
abbrev q_County_copyX_2_0 (h : Hp) (n : Int32) (nZ : Int) (m : Int32) (mZ : Int) : Option Value → Hp → Prop := pVd (fun h' => Inv h' ∧ fr S_County_copyX_2_0 h h' ∧ (cpy h h' 34 0))
set_option maxRecDepth 100000 in
theorem c_County_copyX_2_0 (h : Hp) (hI : Inv h) (n : Int32) (nZ : Int) (nE : n.toInt = nZ) (nK : h.1 0 3 = n) (m : Int32) (mZ : Int) (mE : m.toInt = mZ) (mK : h.1 0 4 = m) : Ct y_County_copyFrom b_County_copyFrom 2 none 2 81 [.ref 34, .ref 0] h (q_County_copyX_2_0 h n nZ m mZ) := by
  refine ct_ow R_County [some (.ref 34), some (.ref 0)] rfl (by decide) rfl (Nat.le_of_ble_eq_true rfl) ?_
  have f0 : fr S_County_copyX_2_0 h h := fr_rf
  refine V_aload_n 0 d_County_copyFrom_0 rfl rfl ?_
  refine V_getR fa_County_12 sk_34 rfl d_County_copyFrom_1 ?_
  refine V_aload_n 1 d_County_copyFrom_4 rfl rfl ?_
  refine V_getR fa_County_12 sk_0 rfl d_County_copyFrom_5 ?_
  obtain ⟨z1, z1Z, z1E, z1e⟩ : ∃ (y : Int32) (Y : Int), y.toInt = Y ∧ y = h.1 1 0 := ⟨_, _, rfl, rfl⟩
  have g2 : 2 ≤ z1Z ∧ z1Z ≤ 4 := inv_at hI z1E z1e rfl
  obtain ⟨z3, z3Z, z3E, z3e⟩ : ∃ (y : Int32) (Y : Int), y.toInt = Y ∧ y = h.1 1 1 := ⟨_, _, rfl, rfl⟩
  have g4 : 2 ≤ z3Z ∧ z3Z ≤ 4 := inv_at hI z3E z3e rfl
  obtain ⟨z5, z5Z, z5E, z5e⟩ : ∃ (y : Int32) (Y : Int), y.toInt = Y ∧ y = h.1 1 2 := ⟨_, _, rfl, rfl⟩
  obtain ⟨z6, z6Z, z6E, z6e⟩ : ∃ (y : Int32) (Y : Int), y.toInt = Y ∧ y = h.1 1 3 := ⟨_, _, rfl, rfl⟩
  refine N_callVV [.ref 1] [] cv_County_47 sk_35 rfl d_County_copyFrom_8 rfl (Nat.le_of_ble_eq_true rfl) (by decide) (by decide) (c_Land_copyX_2_0 h hI z1 z1Z z1E z1e.symm z3 z3Z z3E z3e.symm z5 z5Z z5E z5e.symm z6 z6Z z6E z6e.symm) (fun h8 p9 => ?_)
  obtain ⟨hI10, fh8, p9⟩ := p9
  have f11 : fr S_County_copyX_2_0 h h8 := fr_call f0 fh8 rfl
  have qL := p9
  refine V_aload_n 0 d_County_copyFrom_11 rfl rfl ?_
  refine V_getR fa_County_21 sk_34 rfl d_County_copyFrom_12 ?_
  refine V_aload_n 1 d_County_copyFrom_15 rfl rfl ?_
  refine V_getR fa_County_21 sk_0 rfl d_County_copyFrom_16 ?_
  obtain ⟨z12, z12Z, z12E, z12e⟩ : ∃ (y : Int32) (Y : Int), y.toInt = Y ∧ y = h8.1 7 4 := ⟨_, _, rfl, rfl⟩
  have g13 : 0 ≤ z12Z ∧ z12Z ≤ 8 := inv_at hI10 z12E z12e rfl
  refine N_callVV [.ref 7] [] cv_County_51 sk_41 rfl d_County_copyFrom_19 rfl (Nat.le_of_ble_eq_true rfl) (by decide) (by decide) (c_Ledger_copyX_2_0 h8 hI10 z12 z12Z z12E z12e.symm) (fun h15 p16 => ?_)
  obtain ⟨hI17, fh15, p16⟩ := p16
  have f18 : fr S_County_copyX_2_0 h h15 := fr_call f11 fh15 rfl
  have qG := p16
  refine V_aload_n 0 d_County_copyFrom_22 rfl rfl ?_
  refine V_getR fa_County_28 sk_34 rfl d_County_copyFrom_23 ?_
  refine V_aload_n 1 d_County_copyFrom_26 rfl rfl ?_
  refine V_getR fa_County_28 sk_0 rfl d_County_copyFrom_27 ?_
  obtain ⟨z19, z19Z, z19E, z19e⟩ : ∃ (y : Int32) (Y : Int), y.toInt = Y ∧ y = h15.1 12 4 := ⟨_, _, rfl, rfl⟩
  have g20 : 0 ≤ z19Z ∧ z19Z ≤ 8 := inv_at hI17 z19E z19e rfl
  refine N_callVV [.ref 12] [] cv_County_54 sk_46 rfl d_County_copyFrom_30 rfl (Nat.le_of_ble_eq_true rfl) (by decide) (by decide) (c_Sights_copyX_2_0 h15 hI17 z19 z19Z z19E z19e.symm) (fun h22 p23 => ?_)
  obtain ⟨hI24, fh22, p23⟩ := p23
  have f25 : fr S_County_copyX_2_0 h h22 := fr_call f18 fh22 rfl
  have qS := p23
  refine V_aload_n 0 d_County_copyFrom_33 rfl rfl ?_
  refine V_aload_n 1 d_County_copyFrom_34 rfl rfl ?_
  refine N_getK fa_County_41 sk_0 rfl d_County_copyFrom_35 (kn_call fh22 (kn_call fh15 (kn_call fh8 nK rfl) rfl) rfl) ?_
  refine N_putI fp_County_41 sk_34 rfl d_County_copyFrom_38 (fun h26 eh26 => ?_)
  have hI27 : Inv h26 := inv_full hI24 eh26 rfl
  have f28 : fr S_County_copyX_2_0 h h26 := fr_put f25 eh26 rfl
  refine V_aload_n 0 d_County_copyFrom_41 rfl rfl ?_
  refine V_aload_n 1 d_County_copyFrom_42 rfl rfl ?_
  refine N_getK fa_County_44 sk_0 rfl d_County_copyFrom_43 (kn_ne eh26 (kn_call fh22 (kn_call fh15 (kn_call fh8 mK rfl) rfl) rfl) (by decide)) ?_
  refine N_putI fp_County_44 sk_34 rfl d_County_copyFrom_46 (fun h29 eh29 => ?_)
  have hI30 : Inv h29 := inv_full hI27 eh29 rfl
  have f31 : fr S_County_copyX_2_0 h h29 := fr_put f28 eh29 rfl
  exact V_vret rfl d_County_copyFrom_49 ⟨rfl, ⟨hI30, f31, (cpy_of (a := 34) (b := 0) qL fh15 qG fh22 qS fh8 eh26 eh29 nK mK rfl rfl rfl rfl)⟩⟩
def S_Land_copyX_3_0 : List (Nat × Option Nat) := [(52, none), (53, none), (54, none), (55, none), (56, none), (57, none)]
abbrev q_Land_copyX_3_0 (h : Hp) (w : Int32) (wZ : Int) (g : Int32) (gZ : Int) (x : Int32) (xZ : Int) (y : Int32) (yZ : Int) : Option Value → Hp → Prop := pVd (fun h' => Inv h' ∧ fr S_Land_copyX_3_0 h h' ∧ (h'.1 52 0 = h.1 1 0 ∧ h'.1 52 1 = h.1 1 1 ∧ h'.1 52 2 = h.1 1 2 ∧ h'.1 52 3 = h.1 1 3 ∧ rcp h h' 53 2 16 ∧ rcp h h' 54 3 16 ∧ rcp h h' 55 4 16 ∧ rcp h h' 56 5 16 ∧ rcp h h' 57 6 16))
set_option maxRecDepth 100000 in
theorem c_Land_copyX_3_0 (h : Hp) (hI : Inv h) (w : Int32) (wZ : Int) (wE : w.toInt = wZ) (wK : h.1 1 0 = w) (g : Int32) (gZ : Int) (gE : g.toInt = gZ) (gK : h.1 1 1 = g) (x : Int32) (xZ : Int) (xE : x.toInt = xZ) (xK : h.1 1 2 = x) (y : Int32) (yZ : Int) (yE : y.toInt = yZ) (yK : h.1 1 3 = y) : Ct y_Land_copyFrom b_Land_copyFrom 2 none 1 60 [.ref 52, .ref 1] h (q_Land_copyX_3_0 h w wZ g gZ x xZ y yZ) := by
  refine ct_ow R_Land [some (.ref 52), some (.ref 1)] rfl (by decide) rfl (Nat.le_of_ble_eq_true rfl) ?_
  have f0 : fr S_Land_copyX_3_0 h h := fr_rf
  have g1 : 2 ≤ wZ ∧ wZ ≤ 4 := inv_at hI wE wK.symm rfl
  have g2 : 2 ≤ gZ ∧ gZ ≤ 4 := inv_at hI gE gK.symm rfl
  refine V_aload_n 0 d_Land_copyFrom_0 rfl rfl ?_
  refine V_aload_n 1 d_Land_copyFrom_1 rfl rfl ?_
  refine N_getK fa_Land_27 sk_1 rfl d_Land_copyFrom_2 wK ?_
  refine N_putI fp_Land_27 sk_52 rfl d_Land_copyFrom_5 (fun h3 eh3 => ?_)
  have hI4 : Inv h3 := inv_put (lo := 2) (hi := 4) hI eh3 rfl wE (by (first | decide +kernel | omega))
  have f5 : fr S_Land_copyX_3_0 h h3 := fr_put f0 eh3 rfl
  refine V_aload_n 0 d_Land_copyFrom_8 rfl rfl ?_
  refine V_aload_n 1 d_Land_copyFrom_9 rfl rfl ?_
  refine N_getK fa_Land_31 sk_1 rfl d_Land_copyFrom_10 (kn_ne eh3 gK (by decide)) ?_
  refine N_putI fp_Land_31 sk_52 rfl d_Land_copyFrom_13 (fun h6 eh6 => ?_)
  have hI7 : Inv h6 := inv_put (lo := 2) (hi := 4) hI4 eh6 rfl gE (by (first | decide +kernel | omega))
  have f8 : fr S_Land_copyX_3_0 h h6 := fr_put f5 eh6 rfl
  refine V_aload_n 0 d_Land_copyFrom_16 rfl rfl ?_
  refine V_aload_n 1 d_Land_copyFrom_17 rfl rfl ?_
  refine N_getK fa_Land_34 sk_1 rfl d_Land_copyFrom_18 (kn_ne eh6 (kn_ne eh3 xK (by decide)) (by decide)) ?_
  refine N_putI fp_Land_34 sk_52 rfl d_Land_copyFrom_21 (fun h9 eh9 => ?_)
  have hI10 : Inv h9 := inv_full hI7 eh9 rfl
  have f11 : fr S_Land_copyX_3_0 h h9 := fr_put f8 eh9 rfl
  refine V_aload_n 0 d_Land_copyFrom_24 rfl rfl ?_
  refine V_aload_n 1 d_Land_copyFrom_25 rfl rfl ?_
  refine N_getK fa_Land_37 sk_1 rfl d_Land_copyFrom_26 (kn_ne eh9 (kn_ne eh6 (kn_ne eh3 yK (by decide)) (by decide)) (by decide)) ?_
  refine N_putI fp_Land_37 sk_52 rfl d_Land_copyFrom_29 (fun h12 eh12 => ?_)
  have hI13 : Inv h12 := inv_full hI10 eh12 rfl
  have f14 : fr S_Land_copyX_3_0 h h12 := fr_put f11 eh12 rfl
  refine V_aload_n 1 d_Land_copyFrom_32 rfl rfl ?_
  refine V_getR fa_Land_9 sk_1 rfl d_Land_copyFrom_33 ?_
  refine V_iconst 0 d_Land_copyFrom_36 (by decide) ?_
  refine V_aload_n 0 d_Land_copyFrom_37 rfl rfl ?_
  refine V_getR fa_Land_9 sk_52 rfl d_Land_copyFrom_38 ?_
  refine V_iconst 0 d_Land_copyFrom_41 (by decide) ?_
  refine V_bipush 16 d_Land_copyFrom_42 (by decide) ?_
  refine N_acopy sk_2 sk_53 tc_0 tc_0 tc_16 (by (first | decide +kernel | omega)) wa_Land_46 wA1 wA2 wA3 d_Land_copyFrom_44 (by decide) (Nat.le_of_ble_eq_true rfl) (fun h15 eh15 => ?_)
  have hI16 : Inv h15 := inv_cpy (n := 16) hI13 eh15 (fun _ => rfl)
  have f17 : fr S_Land_copyX_3_0 h h15 := fr_row f14 eh15 (fun _ => rfl)
  have C18 : rcp h h15 53 2 16 := rcp_now f14 (fun _ => rfl) eh15
  refine V_aload_n 1 d_Land_copyFrom_47 rfl rfl ?_
  refine V_getR fa_Land_15 sk_1 rfl d_Land_copyFrom_48 ?_
  refine V_iconst 0 d_Land_copyFrom_51 (by decide) ?_
  refine V_aload_n 0 d_Land_copyFrom_52 rfl rfl ?_
  refine V_getR fa_Land_15 sk_52 rfl d_Land_copyFrom_53 ?_
  refine V_iconst 0 d_Land_copyFrom_56 (by decide) ?_
  refine V_bipush 16 d_Land_copyFrom_57 (by decide) ?_
  refine N_acopy sk_3 sk_54 tc_0 tc_0 tc_16 (by (first | decide +kernel | omega)) wa_Land_46 wA1 wA2 wA3 d_Land_copyFrom_59 (by decide) (Nat.le_of_ble_eq_true rfl) (fun h19 eh19 => ?_)
  have hI20 : Inv h19 := inv_cpy (n := 16) hI16 eh19 (fun _ => rfl)
  have f21 : fr S_Land_copyX_3_0 h h19 := fr_row f17 eh19 (fun _ => rfl)
  have C22 : rcp h h19 53 2 16 := rcp_row C18 eh19 (by decide)
  have C23 : rcp h h19 54 3 16 := rcp_now f17 (fun _ => rfl) eh19
  refine V_aload_n 1 d_Land_copyFrom_62 rfl rfl ?_
  refine V_getR fa_Land_18 sk_1 rfl d_Land_copyFrom_63 ?_
  refine V_iconst 0 d_Land_copyFrom_66 (by decide) ?_
  refine V_aload_n 0 d_Land_copyFrom_67 rfl rfl ?_
  refine V_getR fa_Land_18 sk_52 rfl d_Land_copyFrom_68 ?_
  refine V_iconst 0 d_Land_copyFrom_71 (by decide) ?_
  refine V_bipush 16 d_Land_copyFrom_72 (by decide) ?_
  refine N_acopy sk_4 sk_55 tc_0 tc_0 tc_16 (by (first | decide +kernel | omega)) wa_Land_46 wA1 wA2 wA3 d_Land_copyFrom_74 (by decide) (Nat.le_of_ble_eq_true rfl) (fun h24 eh24 => ?_)
  have hI25 : Inv h24 := inv_cpy (n := 16) hI20 eh24 (fun _ => rfl)
  have f26 : fr S_Land_copyX_3_0 h h24 := fr_row f21 eh24 (fun _ => rfl)
  have C27 : rcp h h24 53 2 16 := rcp_row C22 eh24 (by decide)
  have C28 : rcp h h24 54 3 16 := rcp_row C23 eh24 (by decide)
  have C29 : rcp h h24 55 4 16 := rcp_now f21 (fun _ => rfl) eh24
  refine V_aload_n 1 d_Land_copyFrom_77 rfl rfl ?_
  refine V_getR fa_Land_21 sk_1 rfl d_Land_copyFrom_78 ?_
  refine V_iconst 0 d_Land_copyFrom_81 (by decide) ?_
  refine V_aload_n 0 d_Land_copyFrom_82 rfl rfl ?_
  refine V_getR fa_Land_21 sk_52 rfl d_Land_copyFrom_83 ?_
  refine V_iconst 0 d_Land_copyFrom_86 (by decide) ?_
  refine V_bipush 16 d_Land_copyFrom_87 (by decide) ?_
  refine N_acopy sk_5 sk_56 tc_0 tc_0 tc_16 (by (first | decide +kernel | omega)) wa_Land_46 wA1 wA2 wA3 d_Land_copyFrom_89 (by decide) (Nat.le_of_ble_eq_true rfl) (fun h30 eh30 => ?_)
  have hI31 : Inv h30 := inv_cpy (n := 16) hI25 eh30 (fun _ => rfl)
  have f32 : fr S_Land_copyX_3_0 h h30 := fr_row f26 eh30 (fun _ => rfl)
  have C33 : rcp h h30 53 2 16 := rcp_row C27 eh30 (by decide)
  have C34 : rcp h h30 54 3 16 := rcp_row C28 eh30 (by decide)
  have C35 : rcp h h30 55 4 16 := rcp_row C29 eh30 (by decide)
  have C36 : rcp h h30 56 5 16 := rcp_now f26 (fun _ => rfl) eh30
  refine V_aload_n 1 d_Land_copyFrom_92 rfl rfl ?_
  refine V_getR fa_Land_24 sk_1 rfl d_Land_copyFrom_93 ?_
  refine V_iconst 0 d_Land_copyFrom_96 (by decide) ?_
  refine V_aload_n 0 d_Land_copyFrom_97 rfl rfl ?_
  refine V_getR fa_Land_24 sk_52 rfl d_Land_copyFrom_98 ?_
  refine V_iconst 0 d_Land_copyFrom_101 (by decide) ?_
  refine V_bipush 16 d_Land_copyFrom_102 (by decide) ?_
  refine N_acopy sk_6 sk_57 tc_0 tc_0 tc_16 (by (first | decide +kernel | omega)) wa_Land_46 wA1 wA2 wA3 d_Land_copyFrom_104 (by decide) (Nat.le_of_ble_eq_true rfl) (fun h37 eh37 => ?_)
  have hI38 : Inv h37 := inv_cpy (n := 16) hI31 eh37 (fun _ => rfl)
  have f39 : fr S_Land_copyX_3_0 h h37 := fr_row f32 eh37 (fun _ => rfl)
  have C40 : rcp h h37 53 2 16 := rcp_row C33 eh37 (by decide)
  have C41 : rcp h h37 54 3 16 := rcp_row C34 eh37 (by decide)
  have C42 : rcp h h37 55 4 16 := rcp_row C35 eh37 (by decide)
  have C43 : rcp h h37 56 5 16 := rcp_row C36 eh37 (by decide)
  have C44 : rcp h h37 57 6 16 := rcp_now f32 (fun _ => rfl) eh37
  exact V_vret rfl d_Land_copyFrom_107 ⟨rfl, ⟨hI38, f39, ⟨((kn_row eh37 (kn_row eh30 (kn_row eh24 (kn_row eh19 (kn_row eh15 (kn_nei eh12 (kn_nei eh9 (kn_nei eh6 (kn_put eh3) (by decide)) (by decide)) (by decide)) (by decide)) (by decide)) (by decide)) (by decide)) (by decide)).trans wK.symm), ((kn_row eh37 (kn_row eh30 (kn_row eh24 (kn_row eh19 (kn_row eh15 (kn_nei eh12 (kn_nei eh9 (kn_put eh6) (by decide)) (by decide)) (by decide)) (by decide)) (by decide)) (by decide)) (by decide)).trans gK.symm), ((kn_row eh37 (kn_row eh30 (kn_row eh24 (kn_row eh19 (kn_row eh15 (kn_nei eh12 (kn_put eh9) (by decide)) (by decide)) (by decide)) (by decide)) (by decide)) (by decide)).trans xK.symm), ((kn_row eh37 (kn_row eh30 (kn_row eh24 (kn_row eh19 (kn_row eh15 (kn_put eh12) (by decide)) (by decide)) (by decide)) (by decide)) (by decide)).trans yK.symm), C40, C41, C42, C43, C44⟩⟩⟩
def S_Ledger_copyX_3_0 : List (Nat × Option Nat) := [(58, some 4), (59, none), (60, none), (61, none), (62, none)]
abbrev q_Ledger_copyX_3_0 (h : Hp) (t : Int32) (tZ : Int) : Option Value → Hp → Prop := pVd (fun h' => Inv h' ∧ fr S_Ledger_copyX_3_0 h h' ∧ (h'.1 58 4 = h.1 7 4 ∧ rcp h h' 59 8 4 ∧ rcp h h' 60 9 8 ∧ rcp h h' 61 10 8 ∧ rcp h h' 62 11 8))
set_option maxRecDepth 100000 in
theorem c_Ledger_copyX_3_0 (h : Hp) (hI : Inv h) (t : Int32) (tZ : Int) (tE : t.toInt = tZ) (tK : h.1 7 4 = t) : Ct y_Ledger_copyFrom b_Ledger_copyFrom 2 none 1 60 [.ref 58, .ref 7] h (q_Ledger_copyX_3_0 h t tZ) := by
  refine ct_ow R_Ledger [some (.ref 58), some (.ref 7)] rfl (by decide) rfl (Nat.le_of_ble_eq_true rfl) ?_
  have f0 : fr S_Ledger_copyX_3_0 h h := fr_rf
  have g1 : 0 ≤ tZ ∧ tZ ≤ 8 := inv_at hI tE tK.symm rfl
  refine V_aload_n 1 d_Ledger_copyFrom_0 rfl rfl ?_
  refine V_getR fa_Ledger_9 sk_7 rfl d_Ledger_copyFrom_1 ?_
  refine V_iconst 0 d_Ledger_copyFrom_4 (by decide) ?_
  refine V_aload_n 0 d_Ledger_copyFrom_5 rfl rfl ?_
  refine V_getR fa_Ledger_9 sk_58 rfl d_Ledger_copyFrom_6 ?_
  refine V_iconst 0 d_Ledger_copyFrom_9 (by decide) ?_
  refine V_iconst 4 d_Ledger_copyFrom_10 (by decide) ?_
  refine N_acopy sk_8 sk_59 tc_0 tc_0 tc_4 (by (first | decide +kernel | omega)) wa_Ledger_34 wA1 wA2 wA3 d_Ledger_copyFrom_11 (by decide) (Nat.le_of_ble_eq_true rfl) (fun h2 eh2 => ?_)
  have hI3 : Inv h2 := inv_cpy (n := 4) hI eh2 (fun _ => rfl)
  have f4 : fr S_Ledger_copyX_3_0 h h2 := fr_row f0 eh2 (fun _ => rfl)
  have C5 : rcp h h2 59 8 4 := rcp_now f0 (fun _ => rfl) eh2
  refine V_aload_n 1 d_Ledger_copyFrom_14 rfl rfl ?_
  refine V_getR fa_Ledger_15 sk_7 rfl d_Ledger_copyFrom_15 ?_
  refine V_iconst 0 d_Ledger_copyFrom_18 (by decide) ?_
  refine V_aload_n 0 d_Ledger_copyFrom_19 rfl rfl ?_
  refine V_getR fa_Ledger_15 sk_58 rfl d_Ledger_copyFrom_20 ?_
  refine V_iconst 0 d_Ledger_copyFrom_23 (by decide) ?_
  refine V_bipush 8 d_Ledger_copyFrom_24 (by decide) ?_
  refine N_acopy sk_9 sk_60 tc_0 tc_0 tc_8 (by (first | decide +kernel | omega)) wa_Ledger_34 wA1 wA2 wA3 d_Ledger_copyFrom_26 (by decide) (Nat.le_of_ble_eq_true rfl) (fun h6 eh6 => ?_)
  have hI7 : Inv h6 := inv_cpy (n := 8) hI3 eh6 (fun _ => rfl)
  have f8 : fr S_Ledger_copyX_3_0 h h6 := fr_row f4 eh6 (fun _ => rfl)
  have C9 : rcp h h6 59 8 4 := rcp_row C5 eh6 (by decide)
  have C10 : rcp h h6 60 9 8 := rcp_now f4 (fun _ => rfl) eh6
  refine V_aload_n 1 d_Ledger_copyFrom_29 rfl rfl ?_
  refine V_getR fa_Ledger_18 sk_7 rfl d_Ledger_copyFrom_30 ?_
  refine V_iconst 0 d_Ledger_copyFrom_33 (by decide) ?_
  refine V_aload_n 0 d_Ledger_copyFrom_34 rfl rfl ?_
  refine V_getR fa_Ledger_18 sk_58 rfl d_Ledger_copyFrom_35 ?_
  refine V_iconst 0 d_Ledger_copyFrom_38 (by decide) ?_
  refine V_bipush 8 d_Ledger_copyFrom_39 (by decide) ?_
  refine N_acopy sk_10 sk_61 tc_0 tc_0 tc_8 (by (first | decide +kernel | omega)) wa_Ledger_34 wA1 wA2 wA3 d_Ledger_copyFrom_41 (by decide) (Nat.le_of_ble_eq_true rfl) (fun h11 eh11 => ?_)
  have hI12 : Inv h11 := inv_cpy (n := 8) hI7 eh11 (fun _ => rfl)
  have f13 : fr S_Ledger_copyX_3_0 h h11 := fr_row f8 eh11 (fun _ => rfl)
  have C14 : rcp h h11 59 8 4 := rcp_row C9 eh11 (by decide)
  have C15 : rcp h h11 60 9 8 := rcp_row C10 eh11 (by decide)
  have C16 : rcp h h11 61 10 8 := rcp_now f8 (fun _ => rfl) eh11
  refine V_aload_n 1 d_Ledger_copyFrom_44 rfl rfl ?_
  refine V_getR fa_Ledger_21 sk_7 rfl d_Ledger_copyFrom_45 ?_
  refine V_iconst 0 d_Ledger_copyFrom_48 (by decide) ?_
  refine V_aload_n 0 d_Ledger_copyFrom_49 rfl rfl ?_
  refine V_getR fa_Ledger_21 sk_58 rfl d_Ledger_copyFrom_50 ?_
  refine V_iconst 0 d_Ledger_copyFrom_53 (by decide) ?_
  refine V_bipush 8 d_Ledger_copyFrom_54 (by decide) ?_
  refine N_acopy sk_11 sk_62 tc_0 tc_0 tc_8 (by (first | decide +kernel | omega)) wa_Ledger_34 wA1 wA2 wA3 d_Ledger_copyFrom_56 (by decide) (Nat.le_of_ble_eq_true rfl) (fun h17 eh17 => ?_)
  have hI18 : Inv h17 := inv_cpy (n := 8) hI12 eh17 (fun _ => rfl)
  have f19 : fr S_Ledger_copyX_3_0 h h17 := fr_row f13 eh17 (fun _ => rfl)
  have C20 : rcp h h17 59 8 4 := rcp_row C14 eh17 (by decide)
  have C21 : rcp h h17 60 9 8 := rcp_row C15 eh17 (by decide)
  have C22 : rcp h h17 61 10 8 := rcp_row C16 eh17 (by decide)
  have C23 : rcp h h17 62 11 8 := rcp_now f13 (fun _ => rfl) eh17
  refine V_aload_n 0 d_Ledger_copyFrom_59 rfl rfl ?_
  refine V_aload_n 1 d_Ledger_copyFrom_60 rfl rfl ?_
  refine N_getK fa_Ledger_30 sk_7 rfl d_Ledger_copyFrom_61 (kn_row eh17 (kn_row eh11 (kn_row eh6 (kn_row eh2 tK (by decide)) (by decide)) (by decide)) (by decide)) ?_
  refine N_putI fp_Ledger_30 sk_58 rfl d_Ledger_copyFrom_64 (fun h24 eh24 => ?_)
  have hI25 : Inv h24 := inv_put (lo := 0) (hi := 8) hI18 eh24 rfl tE (by (first | decide +kernel | omega))
  have f26 : fr S_Ledger_copyX_3_0 h h24 := fr_put f19 eh24 rfl
  have C27 : rcp h h24 59 8 4 := rcp_put C20 eh24 (by decide)
  have C28 : rcp h h24 60 9 8 := rcp_put C21 eh24 (by decide)
  have C29 : rcp h h24 61 10 8 := rcp_put C22 eh24 (by decide)
  have C30 : rcp h h24 62 11 8 := rcp_put C23 eh24 (by decide)
  exact V_vret rfl d_Ledger_copyFrom_67 ⟨rfl, ⟨hI25, f26, ⟨((kn_put eh24).trans tK.symm), C27, C28, C29, C30⟩⟩⟩
def S_Sights_copyX_3_0 : List (Nat × Option Nat) := [(63, some 4), (64, none), (65, none), (66, none), (67, none)]
abbrev q_Sights_copyX_3_0 (h : Hp) (t : Int32) (tZ : Int) : Option Value → Hp → Prop := pVd (fun h' => Inv h' ∧ fr S_Sights_copyX_3_0 h h' ∧ (h'.1 63 4 = h.1 12 4 ∧ rcp h h' 64 13 8 ∧ rcp h h' 65 14 8 ∧ rcp h h' 66 15 8 ∧ rcp h h' 67 16 8))
set_option maxRecDepth 100000 in
theorem c_Sights_copyX_3_0 (h : Hp) (hI : Inv h) (t : Int32) (tZ : Int) (tE : t.toInt = tZ) (tK : h.1 12 4 = t) : Ct y_Sights_copyFrom b_Sights_copyFrom 2 none 1 60 [.ref 63, .ref 12] h (q_Sights_copyX_3_0 h t tZ) := by
  refine ct_ow R_Sights [some (.ref 63), some (.ref 12)] rfl (by decide) rfl (Nat.le_of_ble_eq_true rfl) ?_
  have f0 : fr S_Sights_copyX_3_0 h h := fr_rf
  have g1 : 0 ≤ tZ ∧ tZ ≤ 8 := inv_at hI tE tK.symm rfl
  refine V_aload_n 1 d_Sights_copyFrom_0 rfl rfl ?_
  refine V_getR fa_Sights_9 sk_12 rfl d_Sights_copyFrom_1 ?_
  refine V_iconst 0 d_Sights_copyFrom_4 (by decide) ?_
  refine V_aload_n 0 d_Sights_copyFrom_5 rfl rfl ?_
  refine V_getR fa_Sights_9 sk_63 rfl d_Sights_copyFrom_6 ?_
  refine V_iconst 0 d_Sights_copyFrom_9 (by decide) ?_
  refine V_bipush 8 d_Sights_copyFrom_10 (by decide) ?_
  refine N_acopy sk_13 sk_64 tc_0 tc_0 tc_8 (by (first | decide +kernel | omega)) wa_Sights_24 wA1 wA2 wA3 d_Sights_copyFrom_12 (by decide) (Nat.le_of_ble_eq_true rfl) (fun h2 eh2 => ?_)
  have hI3 : Inv h2 := inv_cpy (n := 8) hI eh2 (fun _ => rfl)
  have f4 : fr S_Sights_copyX_3_0 h h2 := fr_row f0 eh2 (fun _ => rfl)
  have C5 : rcp h h2 64 13 8 := rcp_now f0 (fun _ => rfl) eh2
  refine V_aload_n 1 d_Sights_copyFrom_15 rfl rfl ?_
  refine V_getR fa_Sights_15 sk_12 rfl d_Sights_copyFrom_16 ?_
  refine V_iconst 0 d_Sights_copyFrom_19 (by decide) ?_
  refine V_aload_n 0 d_Sights_copyFrom_20 rfl rfl ?_
  refine V_getR fa_Sights_15 sk_63 rfl d_Sights_copyFrom_21 ?_
  refine V_iconst 0 d_Sights_copyFrom_24 (by decide) ?_
  refine V_bipush 8 d_Sights_copyFrom_25 (by decide) ?_
  refine N_acopy sk_14 sk_65 tc_0 tc_0 tc_8 (by (first | decide +kernel | omega)) wa_Sights_24 wA1 wA2 wA3 d_Sights_copyFrom_27 (by decide) (Nat.le_of_ble_eq_true rfl) (fun h6 eh6 => ?_)
  have hI7 : Inv h6 := inv_cpy (n := 8) hI3 eh6 (fun _ => rfl)
  have f8 : fr S_Sights_copyX_3_0 h h6 := fr_row f4 eh6 (fun _ => rfl)
  have C9 : rcp h h6 64 13 8 := rcp_row C5 eh6 (by decide)
  have C10 : rcp h h6 65 14 8 := rcp_now f4 (fun _ => rfl) eh6
  refine V_aload_n 1 d_Sights_copyFrom_30 rfl rfl ?_
  refine V_getR fa_Sights_18 sk_12 rfl d_Sights_copyFrom_31 ?_
  refine V_iconst 0 d_Sights_copyFrom_34 (by decide) ?_
  refine V_aload_n 0 d_Sights_copyFrom_35 rfl rfl ?_
  refine V_getR fa_Sights_18 sk_63 rfl d_Sights_copyFrom_36 ?_
  refine V_iconst 0 d_Sights_copyFrom_39 (by decide) ?_
  refine V_bipush 8 d_Sights_copyFrom_40 (by decide) ?_
  refine N_acopy sk_15 sk_66 tc_0 tc_0 tc_8 (by (first | decide +kernel | omega)) wa_Sights_24 wA1 wA2 wA3 d_Sights_copyFrom_42 (by decide) (Nat.le_of_ble_eq_true rfl) (fun h11 eh11 => ?_)
  have hI12 : Inv h11 := inv_cpy (n := 8) hI7 eh11 (fun _ => rfl)
  have f13 : fr S_Sights_copyX_3_0 h h11 := fr_row f8 eh11 (fun _ => rfl)
  have C14 : rcp h h11 64 13 8 := rcp_row C9 eh11 (by decide)
  have C15 : rcp h h11 65 14 8 := rcp_row C10 eh11 (by decide)
  have C16 : rcp h h11 66 15 8 := rcp_now f8 (fun _ => rfl) eh11
  refine V_aload_n 1 d_Sights_copyFrom_45 rfl rfl ?_
  refine V_getR fa_Sights_21 sk_12 rfl d_Sights_copyFrom_46 ?_
  refine V_iconst 0 d_Sights_copyFrom_49 (by decide) ?_
  refine V_aload_n 0 d_Sights_copyFrom_50 rfl rfl ?_
  refine V_getR fa_Sights_21 sk_63 rfl d_Sights_copyFrom_51 ?_
  refine V_iconst 0 d_Sights_copyFrom_54 (by decide) ?_
  refine V_bipush 8 d_Sights_copyFrom_55 (by decide) ?_
  refine N_acopy sk_16 sk_67 tc_0 tc_0 tc_8 (by (first | decide +kernel | omega)) wa_Sights_24 wA1 wA2 wA3 d_Sights_copyFrom_57 (by decide) (Nat.le_of_ble_eq_true rfl) (fun h17 eh17 => ?_)
  have hI18 : Inv h17 := inv_cpy (n := 8) hI12 eh17 (fun _ => rfl)
  have f19 : fr S_Sights_copyX_3_0 h h17 := fr_row f13 eh17 (fun _ => rfl)
  have C20 : rcp h h17 64 13 8 := rcp_row C14 eh17 (by decide)
  have C21 : rcp h h17 65 14 8 := rcp_row C15 eh17 (by decide)
  have C22 : rcp h h17 66 15 8 := rcp_row C16 eh17 (by decide)
  have C23 : rcp h h17 67 16 8 := rcp_now f13 (fun _ => rfl) eh17
  refine V_aload_n 0 d_Sights_copyFrom_60 rfl rfl ?_
  refine V_aload_n 1 d_Sights_copyFrom_61 rfl rfl ?_
  refine N_getK fa_Sights_30 sk_12 rfl d_Sights_copyFrom_62 (kn_row eh17 (kn_row eh11 (kn_row eh6 (kn_row eh2 tK (by decide)) (by decide)) (by decide)) (by decide)) ?_
  refine N_putI fp_Sights_30 sk_63 rfl d_Sights_copyFrom_65 (fun h24 eh24 => ?_)
  have hI25 : Inv h24 := inv_put (lo := 0) (hi := 8) hI18 eh24 rfl tE (by (first | decide +kernel | omega))
  have f26 : fr S_Sights_copyX_3_0 h h24 := fr_put f19 eh24 rfl
  have C27 : rcp h h24 64 13 8 := rcp_put C20 eh24 (by decide)
  have C28 : rcp h h24 65 14 8 := rcp_put C21 eh24 (by decide)
  have C29 : rcp h h24 66 15 8 := rcp_put C22 eh24 (by decide)
  have C30 : rcp h h24 67 16 8 := rcp_put C23 eh24 (by decide)
  exact V_vret rfl d_Sights_copyFrom_68 ⟨rfl, ⟨hI25, f26, ⟨((kn_put eh24).trans tK.symm), C27, C28, C29, C30⟩⟩⟩
def S_County_copyX_3_0 : List (Nat × Option Nat) := [(51, some 3), (51, some 4), (52, none), (53, none), (54, none), (55, none), (56, none), (57, none), (58, some 4), (59, none), (60, none), (61, none), (62, none), (63, some 4), (64, none), (65, none), (66, none), (67, none)]
abbrev q_County_copyX_3_0 (h : Hp) (n : Int32) (nZ : Int) (m : Int32) (mZ : Int) : Option Value → Hp → Prop := pVd (fun h' => Inv h' ∧ fr S_County_copyX_3_0 h h' ∧ (cpy h h' 51 0))
set_option maxRecDepth 100000 in
theorem c_County_copyX_3_0 (h : Hp) (hI : Inv h) (n : Int32) (nZ : Int) (nE : n.toInt = nZ) (nK : h.1 0 3 = n) (m : Int32) (mZ : Int) (mE : m.toInt = mZ) (mK : h.1 0 4 = m) : Ct y_County_copyFrom b_County_copyFrom 2 none 2 81 [.ref 51, .ref 0] h (q_County_copyX_3_0 h n nZ m mZ) := by
  refine ct_ow R_County [some (.ref 51), some (.ref 0)] rfl (by decide) rfl (Nat.le_of_ble_eq_true rfl) ?_
  have f0 : fr S_County_copyX_3_0 h h := fr_rf
  refine V_aload_n 0 d_County_copyFrom_0 rfl rfl ?_
  refine V_getR fa_County_12 sk_51 rfl d_County_copyFrom_1 ?_
  refine V_aload_n 1 d_County_copyFrom_4 rfl rfl ?_
  refine V_getR fa_County_12 sk_0 rfl d_County_copyFrom_5 ?_
  obtain ⟨z1, z1Z, z1E, z1e⟩ : ∃ (y : Int32) (Y : Int), y.toInt = Y ∧ y = h.1 1 0 := ⟨_, _, rfl, rfl⟩
  have g2 : 2 ≤ z1Z ∧ z1Z ≤ 4 := inv_at hI z1E z1e rfl
  obtain ⟨z3, z3Z, z3E, z3e⟩ : ∃ (y : Int32) (Y : Int), y.toInt = Y ∧ y = h.1 1 1 := ⟨_, _, rfl, rfl⟩
  have g4 : 2 ≤ z3Z ∧ z3Z ≤ 4 := inv_at hI z3E z3e rfl
  obtain ⟨z5, z5Z, z5E, z5e⟩ : ∃ (y : Int32) (Y : Int), y.toInt = Y ∧ y = h.1 1 2 := ⟨_, _, rfl, rfl⟩
  obtain ⟨z6, z6Z, z6E, z6e⟩ : ∃ (y : Int32) (Y : Int), y.toInt = Y ∧ y = h.1 1 3 := ⟨_, _, rfl, rfl⟩
  refine N_callVV [.ref 1] [] cv_County_47 sk_52 rfl d_County_copyFrom_8 rfl (Nat.le_of_ble_eq_true rfl) (by decide) (by decide) (c_Land_copyX_3_0 h hI z1 z1Z z1E z1e.symm z3 z3Z z3E z3e.symm z5 z5Z z5E z5e.symm z6 z6Z z6E z6e.symm) (fun h8 p9 => ?_)
  obtain ⟨hI10, fh8, p9⟩ := p9
  have f11 : fr S_County_copyX_3_0 h h8 := fr_call f0 fh8 rfl
  have qL := p9
  refine V_aload_n 0 d_County_copyFrom_11 rfl rfl ?_
  refine V_getR fa_County_21 sk_51 rfl d_County_copyFrom_12 ?_
  refine V_aload_n 1 d_County_copyFrom_15 rfl rfl ?_
  refine V_getR fa_County_21 sk_0 rfl d_County_copyFrom_16 ?_
  obtain ⟨z12, z12Z, z12E, z12e⟩ : ∃ (y : Int32) (Y : Int), y.toInt = Y ∧ y = h8.1 7 4 := ⟨_, _, rfl, rfl⟩
  have g13 : 0 ≤ z12Z ∧ z12Z ≤ 8 := inv_at hI10 z12E z12e rfl
  refine N_callVV [.ref 7] [] cv_County_51 sk_58 rfl d_County_copyFrom_19 rfl (Nat.le_of_ble_eq_true rfl) (by decide) (by decide) (c_Ledger_copyX_3_0 h8 hI10 z12 z12Z z12E z12e.symm) (fun h15 p16 => ?_)
  obtain ⟨hI17, fh15, p16⟩ := p16
  have f18 : fr S_County_copyX_3_0 h h15 := fr_call f11 fh15 rfl
  have qG := p16
  refine V_aload_n 0 d_County_copyFrom_22 rfl rfl ?_
  refine V_getR fa_County_28 sk_51 rfl d_County_copyFrom_23 ?_
  refine V_aload_n 1 d_County_copyFrom_26 rfl rfl ?_
  refine V_getR fa_County_28 sk_0 rfl d_County_copyFrom_27 ?_
  obtain ⟨z19, z19Z, z19E, z19e⟩ : ∃ (y : Int32) (Y : Int), y.toInt = Y ∧ y = h15.1 12 4 := ⟨_, _, rfl, rfl⟩
  have g20 : 0 ≤ z19Z ∧ z19Z ≤ 8 := inv_at hI17 z19E z19e rfl
  refine N_callVV [.ref 12] [] cv_County_54 sk_63 rfl d_County_copyFrom_30 rfl (Nat.le_of_ble_eq_true rfl) (by decide) (by decide) (c_Sights_copyX_3_0 h15 hI17 z19 z19Z z19E z19e.symm) (fun h22 p23 => ?_)
  obtain ⟨hI24, fh22, p23⟩ := p23
  have f25 : fr S_County_copyX_3_0 h h22 := fr_call f18 fh22 rfl
  have qS := p23
  refine V_aload_n 0 d_County_copyFrom_33 rfl rfl ?_
  refine V_aload_n 1 d_County_copyFrom_34 rfl rfl ?_
  refine N_getK fa_County_41 sk_0 rfl d_County_copyFrom_35 (kn_call fh22 (kn_call fh15 (kn_call fh8 nK rfl) rfl) rfl) ?_
  refine N_putI fp_County_41 sk_51 rfl d_County_copyFrom_38 (fun h26 eh26 => ?_)
  have hI27 : Inv h26 := inv_full hI24 eh26 rfl
  have f28 : fr S_County_copyX_3_0 h h26 := fr_put f25 eh26 rfl
  refine V_aload_n 0 d_County_copyFrom_41 rfl rfl ?_
  refine V_aload_n 1 d_County_copyFrom_42 rfl rfl ?_
  refine N_getK fa_County_44 sk_0 rfl d_County_copyFrom_43 (kn_ne eh26 (kn_call fh22 (kn_call fh15 (kn_call fh8 mK rfl) rfl) rfl) (by decide)) ?_
  refine N_putI fp_County_44 sk_51 rfl d_County_copyFrom_46 (fun h29 eh29 => ?_)
  have hI30 : Inv h29 := inv_full hI27 eh29 rfl
  have f31 : fr S_County_copyX_3_0 h h29 := fr_put f28 eh29 rfl
  exact V_vret rfl d_County_copyFrom_49 ⟨rfl, ⟨hI30, f31, (cpy_of (a := 51) (b := 0) qL fh15 qG fh22 qS fh8 eh26 eh29 nK mK rfl rfl rfl rfl)⟩⟩
def S_Land_copyX_0_2 : List (Nat × Option Nat) := [(1, none), (2, none), (3, none), (4, none), (5, none), (6, none)]
abbrev q_Land_copyX_0_2 (h : Hp) (w : Int32) (wZ : Int) (g : Int32) (gZ : Int) (x : Int32) (xZ : Int) (y : Int32) (yZ : Int) : Option Value → Hp → Prop := pVd (fun h' => Inv h' ∧ fr S_Land_copyX_0_2 h h' ∧ (h'.1 1 0 = h.1 35 0 ∧ h'.1 1 1 = h.1 35 1 ∧ h'.1 1 2 = h.1 35 2 ∧ h'.1 1 3 = h.1 35 3 ∧ rcp h h' 2 36 16 ∧ rcp h h' 3 37 16 ∧ rcp h h' 4 38 16 ∧ rcp h h' 5 39 16 ∧ rcp h h' 6 40 16))
set_option maxRecDepth 100000 in
theorem c_Land_copyX_0_2 (h : Hp) (hI : Inv h) (w : Int32) (wZ : Int) (wE : w.toInt = wZ) (wK : h.1 35 0 = w) (g : Int32) (gZ : Int) (gE : g.toInt = gZ) (gK : h.1 35 1 = g) (x : Int32) (xZ : Int) (xE : x.toInt = xZ) (xK : h.1 35 2 = x) (y : Int32) (yZ : Int) (yE : y.toInt = yZ) (yK : h.1 35 3 = y) : Ct y_Land_copyFrom b_Land_copyFrom 2 none 1 60 [.ref 1, .ref 35] h (q_Land_copyX_0_2 h w wZ g gZ x xZ y yZ) := by
  refine ct_ow R_Land [some (.ref 1), some (.ref 35)] rfl (by decide) rfl (Nat.le_of_ble_eq_true rfl) ?_
  have f0 : fr S_Land_copyX_0_2 h h := fr_rf
  have g1 : 2 ≤ wZ ∧ wZ ≤ 4 := inv_at hI wE wK.symm rfl
  have g2 : 2 ≤ gZ ∧ gZ ≤ 4 := inv_at hI gE gK.symm rfl
  refine V_aload_n 0 d_Land_copyFrom_0 rfl rfl ?_
  refine V_aload_n 1 d_Land_copyFrom_1 rfl rfl ?_
  refine N_getK fa_Land_27 sk_35 rfl d_Land_copyFrom_2 wK ?_
  refine N_putI fp_Land_27 sk_1 rfl d_Land_copyFrom_5 (fun h3 eh3 => ?_)
  have hI4 : Inv h3 := inv_put (lo := 2) (hi := 4) hI eh3 rfl wE (by (first | decide +kernel | omega))
  have f5 : fr S_Land_copyX_0_2 h h3 := fr_put f0 eh3 rfl
  refine V_aload_n 0 d_Land_copyFrom_8 rfl rfl ?_
  refine V_aload_n 1 d_Land_copyFrom_9 rfl rfl ?_
  refine N_getK fa_Land_31 sk_35 rfl d_Land_copyFrom_10 (kn_ne eh3 gK (by decide)) ?_
  refine N_putI fp_Land_31 sk_1 rfl d_Land_copyFrom_13 (fun h6 eh6 => ?_)
  have hI7 : Inv h6 := inv_put (lo := 2) (hi := 4) hI4 eh6 rfl gE (by (first | decide +kernel | omega))
  have f8 : fr S_Land_copyX_0_2 h h6 := fr_put f5 eh6 rfl
  refine V_aload_n 0 d_Land_copyFrom_16 rfl rfl ?_
  refine V_aload_n 1 d_Land_copyFrom_17 rfl rfl ?_
  refine N_getK fa_Land_34 sk_35 rfl d_Land_copyFrom_18 (kn_ne eh6 (kn_ne eh3 xK (by decide)) (by decide)) ?_
  refine N_putI fp_Land_34 sk_1 rfl d_Land_copyFrom_21 (fun h9 eh9 => ?_)
  have hI10 : Inv h9 := inv_full hI7 eh9 rfl
  have f11 : fr S_Land_copyX_0_2 h h9 := fr_put f8 eh9 rfl
  refine V_aload_n 0 d_Land_copyFrom_24 rfl rfl ?_
  refine V_aload_n 1 d_Land_copyFrom_25 rfl rfl ?_
  refine N_getK fa_Land_37 sk_35 rfl d_Land_copyFrom_26 (kn_ne eh9 (kn_ne eh6 (kn_ne eh3 yK (by decide)) (by decide)) (by decide)) ?_
  refine N_putI fp_Land_37 sk_1 rfl d_Land_copyFrom_29 (fun h12 eh12 => ?_)
  have hI13 : Inv h12 := inv_full hI10 eh12 rfl
  have f14 : fr S_Land_copyX_0_2 h h12 := fr_put f11 eh12 rfl
  refine V_aload_n 1 d_Land_copyFrom_32 rfl rfl ?_
  refine V_getR fa_Land_9 sk_35 rfl d_Land_copyFrom_33 ?_
  refine V_iconst 0 d_Land_copyFrom_36 (by decide) ?_
  refine V_aload_n 0 d_Land_copyFrom_37 rfl rfl ?_
  refine V_getR fa_Land_9 sk_1 rfl d_Land_copyFrom_38 ?_
  refine V_iconst 0 d_Land_copyFrom_41 (by decide) ?_
  refine V_bipush 16 d_Land_copyFrom_42 (by decide) ?_
  refine N_acopy sk_36 sk_2 tc_0 tc_0 tc_16 (by (first | decide +kernel | omega)) wa_Land_46 wA1 wA2 wA3 d_Land_copyFrom_44 (by decide) (Nat.le_of_ble_eq_true rfl) (fun h15 eh15 => ?_)
  have hI16 : Inv h15 := inv_cpy (n := 16) hI13 eh15 (fun _ => rfl)
  have f17 : fr S_Land_copyX_0_2 h h15 := fr_row f14 eh15 (fun _ => rfl)
  have C18 : rcp h h15 2 36 16 := rcp_now f14 (fun _ => rfl) eh15
  refine V_aload_n 1 d_Land_copyFrom_47 rfl rfl ?_
  refine V_getR fa_Land_15 sk_35 rfl d_Land_copyFrom_48 ?_
  refine V_iconst 0 d_Land_copyFrom_51 (by decide) ?_
  refine V_aload_n 0 d_Land_copyFrom_52 rfl rfl ?_
  refine V_getR fa_Land_15 sk_1 rfl d_Land_copyFrom_53 ?_
  refine V_iconst 0 d_Land_copyFrom_56 (by decide) ?_
  refine V_bipush 16 d_Land_copyFrom_57 (by decide) ?_
  refine N_acopy sk_37 sk_3 tc_0 tc_0 tc_16 (by (first | decide +kernel | omega)) wa_Land_46 wA1 wA2 wA3 d_Land_copyFrom_59 (by decide) (Nat.le_of_ble_eq_true rfl) (fun h19 eh19 => ?_)
  have hI20 : Inv h19 := inv_cpy (n := 16) hI16 eh19 (fun _ => rfl)
  have f21 : fr S_Land_copyX_0_2 h h19 := fr_row f17 eh19 (fun _ => rfl)
  have C22 : rcp h h19 2 36 16 := rcp_row C18 eh19 (by decide)
  have C23 : rcp h h19 3 37 16 := rcp_now f17 (fun _ => rfl) eh19
  refine V_aload_n 1 d_Land_copyFrom_62 rfl rfl ?_
  refine V_getR fa_Land_18 sk_35 rfl d_Land_copyFrom_63 ?_
  refine V_iconst 0 d_Land_copyFrom_66 (by decide) ?_
  refine V_aload_n 0 d_Land_copyFrom_67 rfl rfl ?_
  refine V_getR fa_Land_18 sk_1 rfl d_Land_copyFrom_68 ?_
  refine V_iconst 0 d_Land_copyFrom_71 (by decide) ?_
  refine V_bipush 16 d_Land_copyFrom_72 (by decide) ?_
  refine N_acopy sk_38 sk_4 tc_0 tc_0 tc_16 (by (first | decide +kernel | omega)) wa_Land_46 wA1 wA2 wA3 d_Land_copyFrom_74 (by decide) (Nat.le_of_ble_eq_true rfl) (fun h24 eh24 => ?_)
  have hI25 : Inv h24 := inv_cpy (n := 16) hI20 eh24 (fun _ => rfl)
  have f26 : fr S_Land_copyX_0_2 h h24 := fr_row f21 eh24 (fun _ => rfl)
  have C27 : rcp h h24 2 36 16 := rcp_row C22 eh24 (by decide)
  have C28 : rcp h h24 3 37 16 := rcp_row C23 eh24 (by decide)
  have C29 : rcp h h24 4 38 16 := rcp_now f21 (fun _ => rfl) eh24
  refine V_aload_n 1 d_Land_copyFrom_77 rfl rfl ?_
  refine V_getR fa_Land_21 sk_35 rfl d_Land_copyFrom_78 ?_
  refine V_iconst 0 d_Land_copyFrom_81 (by decide) ?_
  refine V_aload_n 0 d_Land_copyFrom_82 rfl rfl ?_
  refine V_getR fa_Land_21 sk_1 rfl d_Land_copyFrom_83 ?_
  refine V_iconst 0 d_Land_copyFrom_86 (by decide) ?_
  refine V_bipush 16 d_Land_copyFrom_87 (by decide) ?_
  refine N_acopy sk_39 sk_5 tc_0 tc_0 tc_16 (by (first | decide +kernel | omega)) wa_Land_46 wA1 wA2 wA3 d_Land_copyFrom_89 (by decide) (Nat.le_of_ble_eq_true rfl) (fun h30 eh30 => ?_)
  have hI31 : Inv h30 := inv_cpy (n := 16) hI25 eh30 (fun _ => rfl)
  have f32 : fr S_Land_copyX_0_2 h h30 := fr_row f26 eh30 (fun _ => rfl)
  have C33 : rcp h h30 2 36 16 := rcp_row C27 eh30 (by decide)
  have C34 : rcp h h30 3 37 16 := rcp_row C28 eh30 (by decide)
  have C35 : rcp h h30 4 38 16 := rcp_row C29 eh30 (by decide)
  have C36 : rcp h h30 5 39 16 := rcp_now f26 (fun _ => rfl) eh30
  refine V_aload_n 1 d_Land_copyFrom_92 rfl rfl ?_
  refine V_getR fa_Land_24 sk_35 rfl d_Land_copyFrom_93 ?_
  refine V_iconst 0 d_Land_copyFrom_96 (by decide) ?_
  refine V_aload_n 0 d_Land_copyFrom_97 rfl rfl ?_
  refine V_getR fa_Land_24 sk_1 rfl d_Land_copyFrom_98 ?_
  refine V_iconst 0 d_Land_copyFrom_101 (by decide) ?_
  refine V_bipush 16 d_Land_copyFrom_102 (by decide) ?_
  refine N_acopy sk_40 sk_6 tc_0 tc_0 tc_16 (by (first | decide +kernel | omega)) wa_Land_46 wA1 wA2 wA3 d_Land_copyFrom_104 (by decide) (Nat.le_of_ble_eq_true rfl) (fun h37 eh37 => ?_)
  have hI38 : Inv h37 := inv_cpy (n := 16) hI31 eh37 (fun _ => rfl)
  have f39 : fr S_Land_copyX_0_2 h h37 := fr_row f32 eh37 (fun _ => rfl)
  have C40 : rcp h h37 2 36 16 := rcp_row C33 eh37 (by decide)
  have C41 : rcp h h37 3 37 16 := rcp_row C34 eh37 (by decide)
  have C42 : rcp h h37 4 38 16 := rcp_row C35 eh37 (by decide)
  have C43 : rcp h h37 5 39 16 := rcp_row C36 eh37 (by decide)
  have C44 : rcp h h37 6 40 16 := rcp_now f32 (fun _ => rfl) eh37
  exact V_vret rfl d_Land_copyFrom_107 ⟨rfl, ⟨hI38, f39, ⟨((kn_row eh37 (kn_row eh30 (kn_row eh24 (kn_row eh19 (kn_row eh15 (kn_nei eh12 (kn_nei eh9 (kn_nei eh6 (kn_put eh3) (by decide)) (by decide)) (by decide)) (by decide)) (by decide)) (by decide)) (by decide)) (by decide)).trans wK.symm), ((kn_row eh37 (kn_row eh30 (kn_row eh24 (kn_row eh19 (kn_row eh15 (kn_nei eh12 (kn_nei eh9 (kn_put eh6) (by decide)) (by decide)) (by decide)) (by decide)) (by decide)) (by decide)) (by decide)).trans gK.symm), ((kn_row eh37 (kn_row eh30 (kn_row eh24 (kn_row eh19 (kn_row eh15 (kn_nei eh12 (kn_put eh9) (by decide)) (by decide)) (by decide)) (by decide)) (by decide)) (by decide)).trans xK.symm), ((kn_row eh37 (kn_row eh30 (kn_row eh24 (kn_row eh19 (kn_row eh15 (kn_put eh12) (by decide)) (by decide)) (by decide)) (by decide)) (by decide)).trans yK.symm), C40, C41, C42, C43, C44⟩⟩⟩
def S_Ledger_copyX_0_2 : List (Nat × Option Nat) := [(7, some 4), (8, none), (9, none), (10, none), (11, none)]
abbrev q_Ledger_copyX_0_2 (h : Hp) (t : Int32) (tZ : Int) : Option Value → Hp → Prop := pVd (fun h' => Inv h' ∧ fr S_Ledger_copyX_0_2 h h' ∧ (h'.1 7 4 = h.1 41 4 ∧ rcp h h' 8 42 4 ∧ rcp h h' 9 43 8 ∧ rcp h h' 10 44 8 ∧ rcp h h' 11 45 8))
set_option maxRecDepth 100000 in
theorem c_Ledger_copyX_0_2 (h : Hp) (hI : Inv h) (t : Int32) (tZ : Int) (tE : t.toInt = tZ) (tK : h.1 41 4 = t) : Ct y_Ledger_copyFrom b_Ledger_copyFrom 2 none 1 60 [.ref 7, .ref 41] h (q_Ledger_copyX_0_2 h t tZ) := by
  refine ct_ow R_Ledger [some (.ref 7), some (.ref 41)] rfl (by decide) rfl (Nat.le_of_ble_eq_true rfl) ?_
  have f0 : fr S_Ledger_copyX_0_2 h h := fr_rf
  have g1 : 0 ≤ tZ ∧ tZ ≤ 8 := inv_at hI tE tK.symm rfl
  refine V_aload_n 1 d_Ledger_copyFrom_0 rfl rfl ?_
  refine V_getR fa_Ledger_9 sk_41 rfl d_Ledger_copyFrom_1 ?_
  refine V_iconst 0 d_Ledger_copyFrom_4 (by decide) ?_
  refine V_aload_n 0 d_Ledger_copyFrom_5 rfl rfl ?_
  refine V_getR fa_Ledger_9 sk_7 rfl d_Ledger_copyFrom_6 ?_
  refine V_iconst 0 d_Ledger_copyFrom_9 (by decide) ?_
  refine V_iconst 4 d_Ledger_copyFrom_10 (by decide) ?_
  refine N_acopy sk_42 sk_8 tc_0 tc_0 tc_4 (by (first | decide +kernel | omega)) wa_Ledger_34 wA1 wA2 wA3 d_Ledger_copyFrom_11 (by decide) (Nat.le_of_ble_eq_true rfl) (fun h2 eh2 => ?_)
  have hI3 : Inv h2 := inv_cpy (n := 4) hI eh2 (fun _ => rfl)
  have f4 : fr S_Ledger_copyX_0_2 h h2 := fr_row f0 eh2 (fun _ => rfl)
  have C5 : rcp h h2 8 42 4 := rcp_now f0 (fun _ => rfl) eh2
  refine V_aload_n 1 d_Ledger_copyFrom_14 rfl rfl ?_
  refine V_getR fa_Ledger_15 sk_41 rfl d_Ledger_copyFrom_15 ?_
  refine V_iconst 0 d_Ledger_copyFrom_18 (by decide) ?_
  refine V_aload_n 0 d_Ledger_copyFrom_19 rfl rfl ?_
  refine V_getR fa_Ledger_15 sk_7 rfl d_Ledger_copyFrom_20 ?_
  refine V_iconst 0 d_Ledger_copyFrom_23 (by decide) ?_
  refine V_bipush 8 d_Ledger_copyFrom_24 (by decide) ?_
  refine N_acopy sk_43 sk_9 tc_0 tc_0 tc_8 (by (first | decide +kernel | omega)) wa_Ledger_34 wA1 wA2 wA3 d_Ledger_copyFrom_26 (by decide) (Nat.le_of_ble_eq_true rfl) (fun h6 eh6 => ?_)
  have hI7 : Inv h6 := inv_cpy (n := 8) hI3 eh6 (fun _ => rfl)
  have f8 : fr S_Ledger_copyX_0_2 h h6 := fr_row f4 eh6 (fun _ => rfl)
  have C9 : rcp h h6 8 42 4 := rcp_row C5 eh6 (by decide)
  have C10 : rcp h h6 9 43 8 := rcp_now f4 (fun _ => rfl) eh6
  refine V_aload_n 1 d_Ledger_copyFrom_29 rfl rfl ?_
  refine V_getR fa_Ledger_18 sk_41 rfl d_Ledger_copyFrom_30 ?_
  refine V_iconst 0 d_Ledger_copyFrom_33 (by decide) ?_
  refine V_aload_n 0 d_Ledger_copyFrom_34 rfl rfl ?_
  refine V_getR fa_Ledger_18 sk_7 rfl d_Ledger_copyFrom_35 ?_
  refine V_iconst 0 d_Ledger_copyFrom_38 (by decide) ?_
  refine V_bipush 8 d_Ledger_copyFrom_39 (by decide) ?_
  refine N_acopy sk_44 sk_10 tc_0 tc_0 tc_8 (by (first | decide +kernel | omega)) wa_Ledger_34 wA1 wA2 wA3 d_Ledger_copyFrom_41 (by decide) (Nat.le_of_ble_eq_true rfl) (fun h11 eh11 => ?_)
  have hI12 : Inv h11 := inv_cpy (n := 8) hI7 eh11 (fun _ => rfl)
  have f13 : fr S_Ledger_copyX_0_2 h h11 := fr_row f8 eh11 (fun _ => rfl)
  have C14 : rcp h h11 8 42 4 := rcp_row C9 eh11 (by decide)
  have C15 : rcp h h11 9 43 8 := rcp_row C10 eh11 (by decide)
  have C16 : rcp h h11 10 44 8 := rcp_now f8 (fun _ => rfl) eh11
  refine V_aload_n 1 d_Ledger_copyFrom_44 rfl rfl ?_
  refine V_getR fa_Ledger_21 sk_41 rfl d_Ledger_copyFrom_45 ?_
  refine V_iconst 0 d_Ledger_copyFrom_48 (by decide) ?_
  refine V_aload_n 0 d_Ledger_copyFrom_49 rfl rfl ?_
  refine V_getR fa_Ledger_21 sk_7 rfl d_Ledger_copyFrom_50 ?_
  refine V_iconst 0 d_Ledger_copyFrom_53 (by decide) ?_
  refine V_bipush 8 d_Ledger_copyFrom_54 (by decide) ?_
  refine N_acopy sk_45 sk_11 tc_0 tc_0 tc_8 (by (first | decide +kernel | omega)) wa_Ledger_34 wA1 wA2 wA3 d_Ledger_copyFrom_56 (by decide) (Nat.le_of_ble_eq_true rfl) (fun h17 eh17 => ?_)
  have hI18 : Inv h17 := inv_cpy (n := 8) hI12 eh17 (fun _ => rfl)
  have f19 : fr S_Ledger_copyX_0_2 h h17 := fr_row f13 eh17 (fun _ => rfl)
  have C20 : rcp h h17 8 42 4 := rcp_row C14 eh17 (by decide)
  have C21 : rcp h h17 9 43 8 := rcp_row C15 eh17 (by decide)
  have C22 : rcp h h17 10 44 8 := rcp_row C16 eh17 (by decide)
  have C23 : rcp h h17 11 45 8 := rcp_now f13 (fun _ => rfl) eh17
  refine V_aload_n 0 d_Ledger_copyFrom_59 rfl rfl ?_
  refine V_aload_n 1 d_Ledger_copyFrom_60 rfl rfl ?_
  refine N_getK fa_Ledger_30 sk_41 rfl d_Ledger_copyFrom_61 (kn_row eh17 (kn_row eh11 (kn_row eh6 (kn_row eh2 tK (by decide)) (by decide)) (by decide)) (by decide)) ?_
  refine N_putI fp_Ledger_30 sk_7 rfl d_Ledger_copyFrom_64 (fun h24 eh24 => ?_)
  have hI25 : Inv h24 := inv_put (lo := 0) (hi := 8) hI18 eh24 rfl tE (by (first | decide +kernel | omega))
  have f26 : fr S_Ledger_copyX_0_2 h h24 := fr_put f19 eh24 rfl
  have C27 : rcp h h24 8 42 4 := rcp_put C20 eh24 (by decide)
  have C28 : rcp h h24 9 43 8 := rcp_put C21 eh24 (by decide)
  have C29 : rcp h h24 10 44 8 := rcp_put C22 eh24 (by decide)
  have C30 : rcp h h24 11 45 8 := rcp_put C23 eh24 (by decide)
  exact V_vret rfl d_Ledger_copyFrom_67 ⟨rfl, ⟨hI25, f26, ⟨((kn_put eh24).trans tK.symm), C27, C28, C29, C30⟩⟩⟩
def S_Sights_copyX_0_2 : List (Nat × Option Nat) := [(12, some 4), (13, none), (14, none), (15, none), (16, none)]
abbrev q_Sights_copyX_0_2 (h : Hp) (t : Int32) (tZ : Int) : Option Value → Hp → Prop := pVd (fun h' => Inv h' ∧ fr S_Sights_copyX_0_2 h h' ∧ (h'.1 12 4 = h.1 46 4 ∧ rcp h h' 13 47 8 ∧ rcp h h' 14 48 8 ∧ rcp h h' 15 49 8 ∧ rcp h h' 16 50 8))
set_option maxRecDepth 100000 in
theorem c_Sights_copyX_0_2 (h : Hp) (hI : Inv h) (t : Int32) (tZ : Int) (tE : t.toInt = tZ) (tK : h.1 46 4 = t) : Ct y_Sights_copyFrom b_Sights_copyFrom 2 none 1 60 [.ref 12, .ref 46] h (q_Sights_copyX_0_2 h t tZ) := by
  refine ct_ow R_Sights [some (.ref 12), some (.ref 46)] rfl (by decide) rfl (Nat.le_of_ble_eq_true rfl) ?_
  have f0 : fr S_Sights_copyX_0_2 h h := fr_rf
  have g1 : 0 ≤ tZ ∧ tZ ≤ 8 := inv_at hI tE tK.symm rfl
  refine V_aload_n 1 d_Sights_copyFrom_0 rfl rfl ?_
  refine V_getR fa_Sights_9 sk_46 rfl d_Sights_copyFrom_1 ?_
  refine V_iconst 0 d_Sights_copyFrom_4 (by decide) ?_
  refine V_aload_n 0 d_Sights_copyFrom_5 rfl rfl ?_
  refine V_getR fa_Sights_9 sk_12 rfl d_Sights_copyFrom_6 ?_
  refine V_iconst 0 d_Sights_copyFrom_9 (by decide) ?_
  refine V_bipush 8 d_Sights_copyFrom_10 (by decide) ?_
  refine N_acopy sk_47 sk_13 tc_0 tc_0 tc_8 (by (first | decide +kernel | omega)) wa_Sights_24 wA1 wA2 wA3 d_Sights_copyFrom_12 (by decide) (Nat.le_of_ble_eq_true rfl) (fun h2 eh2 => ?_)
  have hI3 : Inv h2 := inv_cpy (n := 8) hI eh2 (fun _ => rfl)
  have f4 : fr S_Sights_copyX_0_2 h h2 := fr_row f0 eh2 (fun _ => rfl)
  have C5 : rcp h h2 13 47 8 := rcp_now f0 (fun _ => rfl) eh2
  refine V_aload_n 1 d_Sights_copyFrom_15 rfl rfl ?_
  refine V_getR fa_Sights_15 sk_46 rfl d_Sights_copyFrom_16 ?_
  refine V_iconst 0 d_Sights_copyFrom_19 (by decide) ?_
  refine V_aload_n 0 d_Sights_copyFrom_20 rfl rfl ?_
  refine V_getR fa_Sights_15 sk_12 rfl d_Sights_copyFrom_21 ?_
  refine V_iconst 0 d_Sights_copyFrom_24 (by decide) ?_
  refine V_bipush 8 d_Sights_copyFrom_25 (by decide) ?_
  refine N_acopy sk_48 sk_14 tc_0 tc_0 tc_8 (by (first | decide +kernel | omega)) wa_Sights_24 wA1 wA2 wA3 d_Sights_copyFrom_27 (by decide) (Nat.le_of_ble_eq_true rfl) (fun h6 eh6 => ?_)
  have hI7 : Inv h6 := inv_cpy (n := 8) hI3 eh6 (fun _ => rfl)
  have f8 : fr S_Sights_copyX_0_2 h h6 := fr_row f4 eh6 (fun _ => rfl)
  have C9 : rcp h h6 13 47 8 := rcp_row C5 eh6 (by decide)
  have C10 : rcp h h6 14 48 8 := rcp_now f4 (fun _ => rfl) eh6
  refine V_aload_n 1 d_Sights_copyFrom_30 rfl rfl ?_
  refine V_getR fa_Sights_18 sk_46 rfl d_Sights_copyFrom_31 ?_
  refine V_iconst 0 d_Sights_copyFrom_34 (by decide) ?_
  refine V_aload_n 0 d_Sights_copyFrom_35 rfl rfl ?_
  refine V_getR fa_Sights_18 sk_12 rfl d_Sights_copyFrom_36 ?_
  refine V_iconst 0 d_Sights_copyFrom_39 (by decide) ?_
  refine V_bipush 8 d_Sights_copyFrom_40 (by decide) ?_
  refine N_acopy sk_49 sk_15 tc_0 tc_0 tc_8 (by (first | decide +kernel | omega)) wa_Sights_24 wA1 wA2 wA3 d_Sights_copyFrom_42 (by decide) (Nat.le_of_ble_eq_true rfl) (fun h11 eh11 => ?_)
  have hI12 : Inv h11 := inv_cpy (n := 8) hI7 eh11 (fun _ => rfl)
  have f13 : fr S_Sights_copyX_0_2 h h11 := fr_row f8 eh11 (fun _ => rfl)
  have C14 : rcp h h11 13 47 8 := rcp_row C9 eh11 (by decide)
  have C15 : rcp h h11 14 48 8 := rcp_row C10 eh11 (by decide)
  have C16 : rcp h h11 15 49 8 := rcp_now f8 (fun _ => rfl) eh11
  refine V_aload_n 1 d_Sights_copyFrom_45 rfl rfl ?_
  refine V_getR fa_Sights_21 sk_46 rfl d_Sights_copyFrom_46 ?_
  refine V_iconst 0 d_Sights_copyFrom_49 (by decide) ?_
  refine V_aload_n 0 d_Sights_copyFrom_50 rfl rfl ?_
  refine V_getR fa_Sights_21 sk_12 rfl d_Sights_copyFrom_51 ?_
  refine V_iconst 0 d_Sights_copyFrom_54 (by decide) ?_
  refine V_bipush 8 d_Sights_copyFrom_55 (by decide) ?_
  refine N_acopy sk_50 sk_16 tc_0 tc_0 tc_8 (by (first | decide +kernel | omega)) wa_Sights_24 wA1 wA2 wA3 d_Sights_copyFrom_57 (by decide) (Nat.le_of_ble_eq_true rfl) (fun h17 eh17 => ?_)
  have hI18 : Inv h17 := inv_cpy (n := 8) hI12 eh17 (fun _ => rfl)
  have f19 : fr S_Sights_copyX_0_2 h h17 := fr_row f13 eh17 (fun _ => rfl)
  have C20 : rcp h h17 13 47 8 := rcp_row C14 eh17 (by decide)
  have C21 : rcp h h17 14 48 8 := rcp_row C15 eh17 (by decide)
  have C22 : rcp h h17 15 49 8 := rcp_row C16 eh17 (by decide)
  have C23 : rcp h h17 16 50 8 := rcp_now f13 (fun _ => rfl) eh17
  refine V_aload_n 0 d_Sights_copyFrom_60 rfl rfl ?_
  refine V_aload_n 1 d_Sights_copyFrom_61 rfl rfl ?_
  refine N_getK fa_Sights_30 sk_46 rfl d_Sights_copyFrom_62 (kn_row eh17 (kn_row eh11 (kn_row eh6 (kn_row eh2 tK (by decide)) (by decide)) (by decide)) (by decide)) ?_
  refine N_putI fp_Sights_30 sk_12 rfl d_Sights_copyFrom_65 (fun h24 eh24 => ?_)
  have hI25 : Inv h24 := inv_put (lo := 0) (hi := 8) hI18 eh24 rfl tE (by (first | decide +kernel | omega))
  have f26 : fr S_Sights_copyX_0_2 h h24 := fr_put f19 eh24 rfl
  have C27 : rcp h h24 13 47 8 := rcp_put C20 eh24 (by decide)
  have C28 : rcp h h24 14 48 8 := rcp_put C21 eh24 (by decide)
  have C29 : rcp h h24 15 49 8 := rcp_put C22 eh24 (by decide)
  have C30 : rcp h h24 16 50 8 := rcp_put C23 eh24 (by decide)
  exact V_vret rfl d_Sights_copyFrom_68 ⟨rfl, ⟨hI25, f26, ⟨((kn_put eh24).trans tK.symm), C27, C28, C29, C30⟩⟩⟩
def S_County_copyX_0_2 : List (Nat × Option Nat) := [(0, some 3), (0, some 4), (1, none), (2, none), (3, none), (4, none), (5, none), (6, none), (7, some 4), (8, none), (9, none), (10, none), (11, none), (12, some 4), (13, none), (14, none), (15, none), (16, none)]
abbrev q_County_copyX_0_2 (h : Hp) (n : Int32) (nZ : Int) (m : Int32) (mZ : Int) : Option Value → Hp → Prop := pVd (fun h' => Inv h' ∧ fr S_County_copyX_0_2 h h' ∧ (cpy h h' 0 34))
set_option maxRecDepth 100000 in
theorem c_County_copyX_0_2 (h : Hp) (hI : Inv h) (n : Int32) (nZ : Int) (nE : n.toInt = nZ) (nK : h.1 34 3 = n) (m : Int32) (mZ : Int) (mE : m.toInt = mZ) (mK : h.1 34 4 = m) : Ct y_County_copyFrom b_County_copyFrom 2 none 2 81 [.ref 0, .ref 34] h (q_County_copyX_0_2 h n nZ m mZ) := by
  refine ct_ow R_County [some (.ref 0), some (.ref 34)] rfl (by decide) rfl (Nat.le_of_ble_eq_true rfl) ?_
  have f0 : fr S_County_copyX_0_2 h h := fr_rf
  refine V_aload_n 0 d_County_copyFrom_0 rfl rfl ?_
  refine V_getR fa_County_12 sk_0 rfl d_County_copyFrom_1 ?_
  refine V_aload_n 1 d_County_copyFrom_4 rfl rfl ?_
  refine V_getR fa_County_12 sk_34 rfl d_County_copyFrom_5 ?_
  obtain ⟨z1, z1Z, z1E, z1e⟩ : ∃ (y : Int32) (Y : Int), y.toInt = Y ∧ y = h.1 35 0 := ⟨_, _, rfl, rfl⟩
  have g2 : 2 ≤ z1Z ∧ z1Z ≤ 4 := inv_at hI z1E z1e rfl
  obtain ⟨z3, z3Z, z3E, z3e⟩ : ∃ (y : Int32) (Y : Int), y.toInt = Y ∧ y = h.1 35 1 := ⟨_, _, rfl, rfl⟩
  have g4 : 2 ≤ z3Z ∧ z3Z ≤ 4 := inv_at hI z3E z3e rfl
  obtain ⟨z5, z5Z, z5E, z5e⟩ : ∃ (y : Int32) (Y : Int), y.toInt = Y ∧ y = h.1 35 2 := ⟨_, _, rfl, rfl⟩
  obtain ⟨z6, z6Z, z6E, z6e⟩ : ∃ (y : Int32) (Y : Int), y.toInt = Y ∧ y = h.1 35 3 := ⟨_, _, rfl, rfl⟩
  refine N_callVV [.ref 35] [] cv_County_47 sk_1 rfl d_County_copyFrom_8 rfl (Nat.le_of_ble_eq_true rfl) (by decide) (by decide) (c_Land_copyX_0_2 h hI z1 z1Z z1E z1e.symm z3 z3Z z3E z3e.symm z5 z5Z z5E z5e.symm z6 z6Z z6E z6e.symm) (fun h8 p9 => ?_)
  obtain ⟨hI10, fh8, p9⟩ := p9
  have f11 : fr S_County_copyX_0_2 h h8 := fr_call f0 fh8 rfl
  have qL := p9
  refine V_aload_n 0 d_County_copyFrom_11 rfl rfl ?_
  refine V_getR fa_County_21 sk_0 rfl d_County_copyFrom_12 ?_
  refine V_aload_n 1 d_County_copyFrom_15 rfl rfl ?_
  refine V_getR fa_County_21 sk_34 rfl d_County_copyFrom_16 ?_
  obtain ⟨z12, z12Z, z12E, z12e⟩ : ∃ (y : Int32) (Y : Int), y.toInt = Y ∧ y = h8.1 41 4 := ⟨_, _, rfl, rfl⟩
  have g13 : 0 ≤ z12Z ∧ z12Z ≤ 8 := inv_at hI10 z12E z12e rfl
  refine N_callVV [.ref 41] [] cv_County_51 sk_7 rfl d_County_copyFrom_19 rfl (Nat.le_of_ble_eq_true rfl) (by decide) (by decide) (c_Ledger_copyX_0_2 h8 hI10 z12 z12Z z12E z12e.symm) (fun h15 p16 => ?_)
  obtain ⟨hI17, fh15, p16⟩ := p16
  have f18 : fr S_County_copyX_0_2 h h15 := fr_call f11 fh15 rfl
  have qG := p16
  refine V_aload_n 0 d_County_copyFrom_22 rfl rfl ?_
  refine V_getR fa_County_28 sk_0 rfl d_County_copyFrom_23 ?_
  refine V_aload_n 1 d_County_copyFrom_26 rfl rfl ?_
  refine V_getR fa_County_28 sk_34 rfl d_County_copyFrom_27 ?_
  obtain ⟨z19, z19Z, z19E, z19e⟩ : ∃ (y : Int32) (Y : Int), y.toInt = Y ∧ y = h15.1 46 4 := ⟨_, _, rfl, rfl⟩
  have g20 : 0 ≤ z19Z ∧ z19Z ≤ 8 := inv_at hI17 z19E z19e rfl
  refine N_callVV [.ref 46] [] cv_County_54 sk_12 rfl d_County_copyFrom_30 rfl (Nat.le_of_ble_eq_true rfl) (by decide) (by decide) (c_Sights_copyX_0_2 h15 hI17 z19 z19Z z19E z19e.symm) (fun h22 p23 => ?_)
  obtain ⟨hI24, fh22, p23⟩ := p23
  have f25 : fr S_County_copyX_0_2 h h22 := fr_call f18 fh22 rfl
  have qS := p23
  refine V_aload_n 0 d_County_copyFrom_33 rfl rfl ?_
  refine V_aload_n 1 d_County_copyFrom_34 rfl rfl ?_
  refine N_getK fa_County_41 sk_34 rfl d_County_copyFrom_35 (kn_call fh22 (kn_call fh15 (kn_call fh8 nK rfl) rfl) rfl) ?_
  refine N_putI fp_County_41 sk_0 rfl d_County_copyFrom_38 (fun h26 eh26 => ?_)
  have hI27 : Inv h26 := inv_full hI24 eh26 rfl
  have f28 : fr S_County_copyX_0_2 h h26 := fr_put f25 eh26 rfl
  refine V_aload_n 0 d_County_copyFrom_41 rfl rfl ?_
  refine V_aload_n 1 d_County_copyFrom_42 rfl rfl ?_
  refine N_getK fa_County_44 sk_34 rfl d_County_copyFrom_43 (kn_ne eh26 (kn_call fh22 (kn_call fh15 (kn_call fh8 mK rfl) rfl) rfl) (by decide)) ?_
  refine N_putI fp_County_44 sk_0 rfl d_County_copyFrom_46 (fun h29 eh29 => ?_)
  have hI30 : Inv h29 := inv_full hI27 eh29 rfl
  have f31 : fr S_County_copyX_0_2 h h29 := fr_put f28 eh29 rfl
  exact V_vret rfl d_County_copyFrom_49 ⟨rfl, ⟨hI30, f31, (cpy_of (a := 0) (b := 34) qL fh15 qG fh22 qS fh8 eh26 eh29 nK mK rfl rfl rfl rfl)⟩⟩
def S_Land_copyX_0_3 : List (Nat × Option Nat) := [(1, none), (2, none), (3, none), (4, none), (5, none), (6, none)]
abbrev q_Land_copyX_0_3 (h : Hp) (w : Int32) (wZ : Int) (g : Int32) (gZ : Int) (x : Int32) (xZ : Int) (y : Int32) (yZ : Int) : Option Value → Hp → Prop := pVd (fun h' => Inv h' ∧ fr S_Land_copyX_0_3 h h' ∧ (h'.1 1 0 = h.1 52 0 ∧ h'.1 1 1 = h.1 52 1 ∧ h'.1 1 2 = h.1 52 2 ∧ h'.1 1 3 = h.1 52 3 ∧ rcp h h' 2 53 16 ∧ rcp h h' 3 54 16 ∧ rcp h h' 4 55 16 ∧ rcp h h' 5 56 16 ∧ rcp h h' 6 57 16))
set_option maxRecDepth 100000 in
theorem c_Land_copyX_0_3 (h : Hp) (hI : Inv h) (w : Int32) (wZ : Int) (wE : w.toInt = wZ) (wK : h.1 52 0 = w) (g : Int32) (gZ : Int) (gE : g.toInt = gZ) (gK : h.1 52 1 = g) (x : Int32) (xZ : Int) (xE : x.toInt = xZ) (xK : h.1 52 2 = x) (y : Int32) (yZ : Int) (yE : y.toInt = yZ) (yK : h.1 52 3 = y) : Ct y_Land_copyFrom b_Land_copyFrom 2 none 1 60 [.ref 1, .ref 52] h (q_Land_copyX_0_3 h w wZ g gZ x xZ y yZ) := by
  refine ct_ow R_Land [some (.ref 1), some (.ref 52)] rfl (by decide) rfl (Nat.le_of_ble_eq_true rfl) ?_
  have f0 : fr S_Land_copyX_0_3 h h := fr_rf
  have g1 : 2 ≤ wZ ∧ wZ ≤ 4 := inv_at hI wE wK.symm rfl
  have g2 : 2 ≤ gZ ∧ gZ ≤ 4 := inv_at hI gE gK.symm rfl
  refine V_aload_n 0 d_Land_copyFrom_0 rfl rfl ?_
  refine V_aload_n 1 d_Land_copyFrom_1 rfl rfl ?_
  refine N_getK fa_Land_27 sk_52 rfl d_Land_copyFrom_2 wK ?_
  refine N_putI fp_Land_27 sk_1 rfl d_Land_copyFrom_5 (fun h3 eh3 => ?_)
  have hI4 : Inv h3 := inv_put (lo := 2) (hi := 4) hI eh3 rfl wE (by (first | decide +kernel | omega))
  have f5 : fr S_Land_copyX_0_3 h h3 := fr_put f0 eh3 rfl
  refine V_aload_n 0 d_Land_copyFrom_8 rfl rfl ?_
  refine V_aload_n 1 d_Land_copyFrom_9 rfl rfl ?_
  refine N_getK fa_Land_31 sk_52 rfl d_Land_copyFrom_10 (kn_ne eh3 gK (by decide)) ?_
  refine N_putI fp_Land_31 sk_1 rfl d_Land_copyFrom_13 (fun h6 eh6 => ?_)
  have hI7 : Inv h6 := inv_put (lo := 2) (hi := 4) hI4 eh6 rfl gE (by (first | decide +kernel | omega))
  have f8 : fr S_Land_copyX_0_3 h h6 := fr_put f5 eh6 rfl
  refine V_aload_n 0 d_Land_copyFrom_16 rfl rfl ?_
  refine V_aload_n 1 d_Land_copyFrom_17 rfl rfl ?_
  refine N_getK fa_Land_34 sk_52 rfl d_Land_copyFrom_18 (kn_ne eh6 (kn_ne eh3 xK (by decide)) (by decide)) ?_
  refine N_putI fp_Land_34 sk_1 rfl d_Land_copyFrom_21 (fun h9 eh9 => ?_)
  have hI10 : Inv h9 := inv_full hI7 eh9 rfl
  have f11 : fr S_Land_copyX_0_3 h h9 := fr_put f8 eh9 rfl
  refine V_aload_n 0 d_Land_copyFrom_24 rfl rfl ?_
  refine V_aload_n 1 d_Land_copyFrom_25 rfl rfl ?_
  refine N_getK fa_Land_37 sk_52 rfl d_Land_copyFrom_26 (kn_ne eh9 (kn_ne eh6 (kn_ne eh3 yK (by decide)) (by decide)) (by decide)) ?_
  refine N_putI fp_Land_37 sk_1 rfl d_Land_copyFrom_29 (fun h12 eh12 => ?_)
  have hI13 : Inv h12 := inv_full hI10 eh12 rfl
  have f14 : fr S_Land_copyX_0_3 h h12 := fr_put f11 eh12 rfl
  refine V_aload_n 1 d_Land_copyFrom_32 rfl rfl ?_
  refine V_getR fa_Land_9 sk_52 rfl d_Land_copyFrom_33 ?_
  refine V_iconst 0 d_Land_copyFrom_36 (by decide) ?_
  refine V_aload_n 0 d_Land_copyFrom_37 rfl rfl ?_
  refine V_getR fa_Land_9 sk_1 rfl d_Land_copyFrom_38 ?_
  refine V_iconst 0 d_Land_copyFrom_41 (by decide) ?_
  refine V_bipush 16 d_Land_copyFrom_42 (by decide) ?_
  refine N_acopy sk_53 sk_2 tc_0 tc_0 tc_16 (by (first | decide +kernel | omega)) wa_Land_46 wA1 wA2 wA3 d_Land_copyFrom_44 (by decide) (Nat.le_of_ble_eq_true rfl) (fun h15 eh15 => ?_)
  have hI16 : Inv h15 := inv_cpy (n := 16) hI13 eh15 (fun _ => rfl)
  have f17 : fr S_Land_copyX_0_3 h h15 := fr_row f14 eh15 (fun _ => rfl)
  have C18 : rcp h h15 2 53 16 := rcp_now f14 (fun _ => rfl) eh15
  refine V_aload_n 1 d_Land_copyFrom_47 rfl rfl ?_
  refine V_getR fa_Land_15 sk_52 rfl d_Land_copyFrom_48 ?_
  refine V_iconst 0 d_Land_copyFrom_51 (by decide) ?_
  refine V_aload_n 0 d_Land_copyFrom_52 rfl rfl ?_
  refine V_getR fa_Land_15 sk_1 rfl d_Land_copyFrom_53 ?_
  refine V_iconst 0 d_Land_copyFrom_56 (by decide) ?_
  refine V_bipush 16 d_Land_copyFrom_57 (by decide) ?_
  refine N_acopy sk_54 sk_3 tc_0 tc_0 tc_16 (by (first | decide +kernel | omega)) wa_Land_46 wA1 wA2 wA3 d_Land_copyFrom_59 (by decide) (Nat.le_of_ble_eq_true rfl) (fun h19 eh19 => ?_)
  have hI20 : Inv h19 := inv_cpy (n := 16) hI16 eh19 (fun _ => rfl)
  have f21 : fr S_Land_copyX_0_3 h h19 := fr_row f17 eh19 (fun _ => rfl)
  have C22 : rcp h h19 2 53 16 := rcp_row C18 eh19 (by decide)
  have C23 : rcp h h19 3 54 16 := rcp_now f17 (fun _ => rfl) eh19
  refine V_aload_n 1 d_Land_copyFrom_62 rfl rfl ?_
  refine V_getR fa_Land_18 sk_52 rfl d_Land_copyFrom_63 ?_
  refine V_iconst 0 d_Land_copyFrom_66 (by decide) ?_
  refine V_aload_n 0 d_Land_copyFrom_67 rfl rfl ?_
  refine V_getR fa_Land_18 sk_1 rfl d_Land_copyFrom_68 ?_
  refine V_iconst 0 d_Land_copyFrom_71 (by decide) ?_
  refine V_bipush 16 d_Land_copyFrom_72 (by decide) ?_
  refine N_acopy sk_55 sk_4 tc_0 tc_0 tc_16 (by (first | decide +kernel | omega)) wa_Land_46 wA1 wA2 wA3 d_Land_copyFrom_74 (by decide) (Nat.le_of_ble_eq_true rfl) (fun h24 eh24 => ?_)
  have hI25 : Inv h24 := inv_cpy (n := 16) hI20 eh24 (fun _ => rfl)
  have f26 : fr S_Land_copyX_0_3 h h24 := fr_row f21 eh24 (fun _ => rfl)
  have C27 : rcp h h24 2 53 16 := rcp_row C22 eh24 (by decide)
  have C28 : rcp h h24 3 54 16 := rcp_row C23 eh24 (by decide)
  have C29 : rcp h h24 4 55 16 := rcp_now f21 (fun _ => rfl) eh24
  refine V_aload_n 1 d_Land_copyFrom_77 rfl rfl ?_
  refine V_getR fa_Land_21 sk_52 rfl d_Land_copyFrom_78 ?_
  refine V_iconst 0 d_Land_copyFrom_81 (by decide) ?_
  refine V_aload_n 0 d_Land_copyFrom_82 rfl rfl ?_
  refine V_getR fa_Land_21 sk_1 rfl d_Land_copyFrom_83 ?_
  refine V_iconst 0 d_Land_copyFrom_86 (by decide) ?_
  refine V_bipush 16 d_Land_copyFrom_87 (by decide) ?_
  refine N_acopy sk_56 sk_5 tc_0 tc_0 tc_16 (by (first | decide +kernel | omega)) wa_Land_46 wA1 wA2 wA3 d_Land_copyFrom_89 (by decide) (Nat.le_of_ble_eq_true rfl) (fun h30 eh30 => ?_)
  have hI31 : Inv h30 := inv_cpy (n := 16) hI25 eh30 (fun _ => rfl)
  have f32 : fr S_Land_copyX_0_3 h h30 := fr_row f26 eh30 (fun _ => rfl)
  have C33 : rcp h h30 2 53 16 := rcp_row C27 eh30 (by decide)
  have C34 : rcp h h30 3 54 16 := rcp_row C28 eh30 (by decide)
  have C35 : rcp h h30 4 55 16 := rcp_row C29 eh30 (by decide)
  have C36 : rcp h h30 5 56 16 := rcp_now f26 (fun _ => rfl) eh30
  refine V_aload_n 1 d_Land_copyFrom_92 rfl rfl ?_
  refine V_getR fa_Land_24 sk_52 rfl d_Land_copyFrom_93 ?_
  refine V_iconst 0 d_Land_copyFrom_96 (by decide) ?_
  refine V_aload_n 0 d_Land_copyFrom_97 rfl rfl ?_
  refine V_getR fa_Land_24 sk_1 rfl d_Land_copyFrom_98 ?_
  refine V_iconst 0 d_Land_copyFrom_101 (by decide) ?_
  refine V_bipush 16 d_Land_copyFrom_102 (by decide) ?_
  refine N_acopy sk_57 sk_6 tc_0 tc_0 tc_16 (by (first | decide +kernel | omega)) wa_Land_46 wA1 wA2 wA3 d_Land_copyFrom_104 (by decide) (Nat.le_of_ble_eq_true rfl) (fun h37 eh37 => ?_)
  have hI38 : Inv h37 := inv_cpy (n := 16) hI31 eh37 (fun _ => rfl)
  have f39 : fr S_Land_copyX_0_3 h h37 := fr_row f32 eh37 (fun _ => rfl)
  have C40 : rcp h h37 2 53 16 := rcp_row C33 eh37 (by decide)
  have C41 : rcp h h37 3 54 16 := rcp_row C34 eh37 (by decide)
  have C42 : rcp h h37 4 55 16 := rcp_row C35 eh37 (by decide)
  have C43 : rcp h h37 5 56 16 := rcp_row C36 eh37 (by decide)
  have C44 : rcp h h37 6 57 16 := rcp_now f32 (fun _ => rfl) eh37
  exact V_vret rfl d_Land_copyFrom_107 ⟨rfl, ⟨hI38, f39, ⟨((kn_row eh37 (kn_row eh30 (kn_row eh24 (kn_row eh19 (kn_row eh15 (kn_nei eh12 (kn_nei eh9 (kn_nei eh6 (kn_put eh3) (by decide)) (by decide)) (by decide)) (by decide)) (by decide)) (by decide)) (by decide)) (by decide)).trans wK.symm), ((kn_row eh37 (kn_row eh30 (kn_row eh24 (kn_row eh19 (kn_row eh15 (kn_nei eh12 (kn_nei eh9 (kn_put eh6) (by decide)) (by decide)) (by decide)) (by decide)) (by decide)) (by decide)) (by decide)).trans gK.symm), ((kn_row eh37 (kn_row eh30 (kn_row eh24 (kn_row eh19 (kn_row eh15 (kn_nei eh12 (kn_put eh9) (by decide)) (by decide)) (by decide)) (by decide)) (by decide)) (by decide)).trans xK.symm), ((kn_row eh37 (kn_row eh30 (kn_row eh24 (kn_row eh19 (kn_row eh15 (kn_put eh12) (by decide)) (by decide)) (by decide)) (by decide)) (by decide)).trans yK.symm), C40, C41, C42, C43, C44⟩⟩⟩
def S_Ledger_copyX_0_3 : List (Nat × Option Nat) := [(7, some 4), (8, none), (9, none), (10, none), (11, none)]
abbrev q_Ledger_copyX_0_3 (h : Hp) (t : Int32) (tZ : Int) : Option Value → Hp → Prop := pVd (fun h' => Inv h' ∧ fr S_Ledger_copyX_0_3 h h' ∧ (h'.1 7 4 = h.1 58 4 ∧ rcp h h' 8 59 4 ∧ rcp h h' 9 60 8 ∧ rcp h h' 10 61 8 ∧ rcp h h' 11 62 8))
set_option maxRecDepth 100000 in
theorem c_Ledger_copyX_0_3 (h : Hp) (hI : Inv h) (t : Int32) (tZ : Int) (tE : t.toInt = tZ) (tK : h.1 58 4 = t) : Ct y_Ledger_copyFrom b_Ledger_copyFrom 2 none 1 60 [.ref 7, .ref 58] h (q_Ledger_copyX_0_3 h t tZ) := by
  refine ct_ow R_Ledger [some (.ref 7), some (.ref 58)] rfl (by decide) rfl (Nat.le_of_ble_eq_true rfl) ?_
  have f0 : fr S_Ledger_copyX_0_3 h h := fr_rf
  have g1 : 0 ≤ tZ ∧ tZ ≤ 8 := inv_at hI tE tK.symm rfl
  refine V_aload_n 1 d_Ledger_copyFrom_0 rfl rfl ?_
  refine V_getR fa_Ledger_9 sk_58 rfl d_Ledger_copyFrom_1 ?_
  refine V_iconst 0 d_Ledger_copyFrom_4 (by decide) ?_
  refine V_aload_n 0 d_Ledger_copyFrom_5 rfl rfl ?_
  refine V_getR fa_Ledger_9 sk_7 rfl d_Ledger_copyFrom_6 ?_
  refine V_iconst 0 d_Ledger_copyFrom_9 (by decide) ?_
  refine V_iconst 4 d_Ledger_copyFrom_10 (by decide) ?_
  refine N_acopy sk_59 sk_8 tc_0 tc_0 tc_4 (by (first | decide +kernel | omega)) wa_Ledger_34 wA1 wA2 wA3 d_Ledger_copyFrom_11 (by decide) (Nat.le_of_ble_eq_true rfl) (fun h2 eh2 => ?_)
  have hI3 : Inv h2 := inv_cpy (n := 4) hI eh2 (fun _ => rfl)
  have f4 : fr S_Ledger_copyX_0_3 h h2 := fr_row f0 eh2 (fun _ => rfl)
  have C5 : rcp h h2 8 59 4 := rcp_now f0 (fun _ => rfl) eh2
  refine V_aload_n 1 d_Ledger_copyFrom_14 rfl rfl ?_
  refine V_getR fa_Ledger_15 sk_58 rfl d_Ledger_copyFrom_15 ?_
  refine V_iconst 0 d_Ledger_copyFrom_18 (by decide) ?_
  refine V_aload_n 0 d_Ledger_copyFrom_19 rfl rfl ?_
  refine V_getR fa_Ledger_15 sk_7 rfl d_Ledger_copyFrom_20 ?_
  refine V_iconst 0 d_Ledger_copyFrom_23 (by decide) ?_
  refine V_bipush 8 d_Ledger_copyFrom_24 (by decide) ?_
  refine N_acopy sk_60 sk_9 tc_0 tc_0 tc_8 (by (first | decide +kernel | omega)) wa_Ledger_34 wA1 wA2 wA3 d_Ledger_copyFrom_26 (by decide) (Nat.le_of_ble_eq_true rfl) (fun h6 eh6 => ?_)
  have hI7 : Inv h6 := inv_cpy (n := 8) hI3 eh6 (fun _ => rfl)
  have f8 : fr S_Ledger_copyX_0_3 h h6 := fr_row f4 eh6 (fun _ => rfl)
  have C9 : rcp h h6 8 59 4 := rcp_row C5 eh6 (by decide)
  have C10 : rcp h h6 9 60 8 := rcp_now f4 (fun _ => rfl) eh6
  refine V_aload_n 1 d_Ledger_copyFrom_29 rfl rfl ?_
  refine V_getR fa_Ledger_18 sk_58 rfl d_Ledger_copyFrom_30 ?_
  refine V_iconst 0 d_Ledger_copyFrom_33 (by decide) ?_
  refine V_aload_n 0 d_Ledger_copyFrom_34 rfl rfl ?_
  refine V_getR fa_Ledger_18 sk_7 rfl d_Ledger_copyFrom_35 ?_
  refine V_iconst 0 d_Ledger_copyFrom_38 (by decide) ?_
  refine V_bipush 8 d_Ledger_copyFrom_39 (by decide) ?_
  refine N_acopy sk_61 sk_10 tc_0 tc_0 tc_8 (by (first | decide +kernel | omega)) wa_Ledger_34 wA1 wA2 wA3 d_Ledger_copyFrom_41 (by decide) (Nat.le_of_ble_eq_true rfl) (fun h11 eh11 => ?_)
  have hI12 : Inv h11 := inv_cpy (n := 8) hI7 eh11 (fun _ => rfl)
  have f13 : fr S_Ledger_copyX_0_3 h h11 := fr_row f8 eh11 (fun _ => rfl)
  have C14 : rcp h h11 8 59 4 := rcp_row C9 eh11 (by decide)
  have C15 : rcp h h11 9 60 8 := rcp_row C10 eh11 (by decide)
  have C16 : rcp h h11 10 61 8 := rcp_now f8 (fun _ => rfl) eh11
  refine V_aload_n 1 d_Ledger_copyFrom_44 rfl rfl ?_
  refine V_getR fa_Ledger_21 sk_58 rfl d_Ledger_copyFrom_45 ?_
  refine V_iconst 0 d_Ledger_copyFrom_48 (by decide) ?_
  refine V_aload_n 0 d_Ledger_copyFrom_49 rfl rfl ?_
  refine V_getR fa_Ledger_21 sk_7 rfl d_Ledger_copyFrom_50 ?_
  refine V_iconst 0 d_Ledger_copyFrom_53 (by decide) ?_
  refine V_bipush 8 d_Ledger_copyFrom_54 (by decide) ?_
  refine N_acopy sk_62 sk_11 tc_0 tc_0 tc_8 (by (first | decide +kernel | omega)) wa_Ledger_34 wA1 wA2 wA3 d_Ledger_copyFrom_56 (by decide) (Nat.le_of_ble_eq_true rfl) (fun h17 eh17 => ?_)
  have hI18 : Inv h17 := inv_cpy (n := 8) hI12 eh17 (fun _ => rfl)
  have f19 : fr S_Ledger_copyX_0_3 h h17 := fr_row f13 eh17 (fun _ => rfl)
  have C20 : rcp h h17 8 59 4 := rcp_row C14 eh17 (by decide)
  have C21 : rcp h h17 9 60 8 := rcp_row C15 eh17 (by decide)
  have C22 : rcp h h17 10 61 8 := rcp_row C16 eh17 (by decide)
  have C23 : rcp h h17 11 62 8 := rcp_now f13 (fun _ => rfl) eh17
  refine V_aload_n 0 d_Ledger_copyFrom_59 rfl rfl ?_
  refine V_aload_n 1 d_Ledger_copyFrom_60 rfl rfl ?_
  refine N_getK fa_Ledger_30 sk_58 rfl d_Ledger_copyFrom_61 (kn_row eh17 (kn_row eh11 (kn_row eh6 (kn_row eh2 tK (by decide)) (by decide)) (by decide)) (by decide)) ?_
  refine N_putI fp_Ledger_30 sk_7 rfl d_Ledger_copyFrom_64 (fun h24 eh24 => ?_)
  have hI25 : Inv h24 := inv_put (lo := 0) (hi := 8) hI18 eh24 rfl tE (by (first | decide +kernel | omega))
  have f26 : fr S_Ledger_copyX_0_3 h h24 := fr_put f19 eh24 rfl
  have C27 : rcp h h24 8 59 4 := rcp_put C20 eh24 (by decide)
  have C28 : rcp h h24 9 60 8 := rcp_put C21 eh24 (by decide)
  have C29 : rcp h h24 10 61 8 := rcp_put C22 eh24 (by decide)
  have C30 : rcp h h24 11 62 8 := rcp_put C23 eh24 (by decide)
  exact V_vret rfl d_Ledger_copyFrom_67 ⟨rfl, ⟨hI25, f26, ⟨((kn_put eh24).trans tK.symm), C27, C28, C29, C30⟩⟩⟩
def S_Sights_copyX_0_3 : List (Nat × Option Nat) := [(12, some 4), (13, none), (14, none), (15, none), (16, none)]
abbrev q_Sights_copyX_0_3 (h : Hp) (t : Int32) (tZ : Int) : Option Value → Hp → Prop := pVd (fun h' => Inv h' ∧ fr S_Sights_copyX_0_3 h h' ∧ (h'.1 12 4 = h.1 63 4 ∧ rcp h h' 13 64 8 ∧ rcp h h' 14 65 8 ∧ rcp h h' 15 66 8 ∧ rcp h h' 16 67 8))
set_option maxRecDepth 100000 in
theorem c_Sights_copyX_0_3 (h : Hp) (hI : Inv h) (t : Int32) (tZ : Int) (tE : t.toInt = tZ) (tK : h.1 63 4 = t) : Ct y_Sights_copyFrom b_Sights_copyFrom 2 none 1 60 [.ref 12, .ref 63] h (q_Sights_copyX_0_3 h t tZ) := by
  refine ct_ow R_Sights [some (.ref 12), some (.ref 63)] rfl (by decide) rfl (Nat.le_of_ble_eq_true rfl) ?_
  have f0 : fr S_Sights_copyX_0_3 h h := fr_rf
  have g1 : 0 ≤ tZ ∧ tZ ≤ 8 := inv_at hI tE tK.symm rfl
  refine V_aload_n 1 d_Sights_copyFrom_0 rfl rfl ?_
  refine V_getR fa_Sights_9 sk_63 rfl d_Sights_copyFrom_1 ?_
  refine V_iconst 0 d_Sights_copyFrom_4 (by decide) ?_
  refine V_aload_n 0 d_Sights_copyFrom_5 rfl rfl ?_
  refine V_getR fa_Sights_9 sk_12 rfl d_Sights_copyFrom_6 ?_
  refine V_iconst 0 d_Sights_copyFrom_9 (by decide) ?_
  refine V_bipush 8 d_Sights_copyFrom_10 (by decide) ?_
  refine N_acopy sk_64 sk_13 tc_0 tc_0 tc_8 (by (first | decide +kernel | omega)) wa_Sights_24 wA1 wA2 wA3 d_Sights_copyFrom_12 (by decide) (Nat.le_of_ble_eq_true rfl) (fun h2 eh2 => ?_)
  have hI3 : Inv h2 := inv_cpy (n := 8) hI eh2 (fun _ => rfl)
  have f4 : fr S_Sights_copyX_0_3 h h2 := fr_row f0 eh2 (fun _ => rfl)
  have C5 : rcp h h2 13 64 8 := rcp_now f0 (fun _ => rfl) eh2
  refine V_aload_n 1 d_Sights_copyFrom_15 rfl rfl ?_
  refine V_getR fa_Sights_15 sk_63 rfl d_Sights_copyFrom_16 ?_
  refine V_iconst 0 d_Sights_copyFrom_19 (by decide) ?_
  refine V_aload_n 0 d_Sights_copyFrom_20 rfl rfl ?_
  refine V_getR fa_Sights_15 sk_12 rfl d_Sights_copyFrom_21 ?_
  refine V_iconst 0 d_Sights_copyFrom_24 (by decide) ?_
  refine V_bipush 8 d_Sights_copyFrom_25 (by decide) ?_
  refine N_acopy sk_65 sk_14 tc_0 tc_0 tc_8 (by (first | decide +kernel | omega)) wa_Sights_24 wA1 wA2 wA3 d_Sights_copyFrom_27 (by decide) (Nat.le_of_ble_eq_true rfl) (fun h6 eh6 => ?_)
  have hI7 : Inv h6 := inv_cpy (n := 8) hI3 eh6 (fun _ => rfl)
  have f8 : fr S_Sights_copyX_0_3 h h6 := fr_row f4 eh6 (fun _ => rfl)
  have C9 : rcp h h6 13 64 8 := rcp_row C5 eh6 (by decide)
  have C10 : rcp h h6 14 65 8 := rcp_now f4 (fun _ => rfl) eh6
  refine V_aload_n 1 d_Sights_copyFrom_30 rfl rfl ?_
  refine V_getR fa_Sights_18 sk_63 rfl d_Sights_copyFrom_31 ?_
  refine V_iconst 0 d_Sights_copyFrom_34 (by decide) ?_
  refine V_aload_n 0 d_Sights_copyFrom_35 rfl rfl ?_
  refine V_getR fa_Sights_18 sk_12 rfl d_Sights_copyFrom_36 ?_
  refine V_iconst 0 d_Sights_copyFrom_39 (by decide) ?_
  refine V_bipush 8 d_Sights_copyFrom_40 (by decide) ?_
  refine N_acopy sk_66 sk_15 tc_0 tc_0 tc_8 (by (first | decide +kernel | omega)) wa_Sights_24 wA1 wA2 wA3 d_Sights_copyFrom_42 (by decide) (Nat.le_of_ble_eq_true rfl) (fun h11 eh11 => ?_)
  have hI12 : Inv h11 := inv_cpy (n := 8) hI7 eh11 (fun _ => rfl)
  have f13 : fr S_Sights_copyX_0_3 h h11 := fr_row f8 eh11 (fun _ => rfl)
  have C14 : rcp h h11 13 64 8 := rcp_row C9 eh11 (by decide)
  have C15 : rcp h h11 14 65 8 := rcp_row C10 eh11 (by decide)
  have C16 : rcp h h11 15 66 8 := rcp_now f8 (fun _ => rfl) eh11
  refine V_aload_n 1 d_Sights_copyFrom_45 rfl rfl ?_
  refine V_getR fa_Sights_21 sk_63 rfl d_Sights_copyFrom_46 ?_
  refine V_iconst 0 d_Sights_copyFrom_49 (by decide) ?_
  refine V_aload_n 0 d_Sights_copyFrom_50 rfl rfl ?_
  refine V_getR fa_Sights_21 sk_12 rfl d_Sights_copyFrom_51 ?_
  refine V_iconst 0 d_Sights_copyFrom_54 (by decide) ?_
  refine V_bipush 8 d_Sights_copyFrom_55 (by decide) ?_
  refine N_acopy sk_67 sk_16 tc_0 tc_0 tc_8 (by (first | decide +kernel | omega)) wa_Sights_24 wA1 wA2 wA3 d_Sights_copyFrom_57 (by decide) (Nat.le_of_ble_eq_true rfl) (fun h17 eh17 => ?_)
  have hI18 : Inv h17 := inv_cpy (n := 8) hI12 eh17 (fun _ => rfl)
  have f19 : fr S_Sights_copyX_0_3 h h17 := fr_row f13 eh17 (fun _ => rfl)
  have C20 : rcp h h17 13 64 8 := rcp_row C14 eh17 (by decide)
  have C21 : rcp h h17 14 65 8 := rcp_row C15 eh17 (by decide)
  have C22 : rcp h h17 15 66 8 := rcp_row C16 eh17 (by decide)
  have C23 : rcp h h17 16 67 8 := rcp_now f13 (fun _ => rfl) eh17
  refine V_aload_n 0 d_Sights_copyFrom_60 rfl rfl ?_
  refine V_aload_n 1 d_Sights_copyFrom_61 rfl rfl ?_
  refine N_getK fa_Sights_30 sk_63 rfl d_Sights_copyFrom_62 (kn_row eh17 (kn_row eh11 (kn_row eh6 (kn_row eh2 tK (by decide)) (by decide)) (by decide)) (by decide)) ?_
  refine N_putI fp_Sights_30 sk_12 rfl d_Sights_copyFrom_65 (fun h24 eh24 => ?_)
  have hI25 : Inv h24 := inv_put (lo := 0) (hi := 8) hI18 eh24 rfl tE (by (first | decide +kernel | omega))
  have f26 : fr S_Sights_copyX_0_3 h h24 := fr_put f19 eh24 rfl
  have C27 : rcp h h24 13 64 8 := rcp_put C20 eh24 (by decide)
  have C28 : rcp h h24 14 65 8 := rcp_put C21 eh24 (by decide)
  have C29 : rcp h h24 15 66 8 := rcp_put C22 eh24 (by decide)
  have C30 : rcp h h24 16 67 8 := rcp_put C23 eh24 (by decide)
  exact V_vret rfl d_Sights_copyFrom_68 ⟨rfl, ⟨hI25, f26, ⟨((kn_put eh24).trans tK.symm), C27, C28, C29, C30⟩⟩⟩
def S_County_copyX_0_3 : List (Nat × Option Nat) := [(0, some 3), (0, some 4), (1, none), (2, none), (3, none), (4, none), (5, none), (6, none), (7, some 4), (8, none), (9, none), (10, none), (11, none), (12, some 4), (13, none), (14, none), (15, none), (16, none)]
abbrev q_County_copyX_0_3 (h : Hp) (n : Int32) (nZ : Int) (m : Int32) (mZ : Int) : Option Value → Hp → Prop := pVd (fun h' => Inv h' ∧ fr S_County_copyX_0_3 h h' ∧ (cpy h h' 0 51))
set_option maxRecDepth 100000 in
theorem c_County_copyX_0_3 (h : Hp) (hI : Inv h) (n : Int32) (nZ : Int) (nE : n.toInt = nZ) (nK : h.1 51 3 = n) (m : Int32) (mZ : Int) (mE : m.toInt = mZ) (mK : h.1 51 4 = m) : Ct y_County_copyFrom b_County_copyFrom 2 none 2 81 [.ref 0, .ref 51] h (q_County_copyX_0_3 h n nZ m mZ) := by
  refine ct_ow R_County [some (.ref 0), some (.ref 51)] rfl (by decide) rfl (Nat.le_of_ble_eq_true rfl) ?_
  have f0 : fr S_County_copyX_0_3 h h := fr_rf
  refine V_aload_n 0 d_County_copyFrom_0 rfl rfl ?_
  refine V_getR fa_County_12 sk_0 rfl d_County_copyFrom_1 ?_
  refine V_aload_n 1 d_County_copyFrom_4 rfl rfl ?_
  refine V_getR fa_County_12 sk_51 rfl d_County_copyFrom_5 ?_
  obtain ⟨z1, z1Z, z1E, z1e⟩ : ∃ (y : Int32) (Y : Int), y.toInt = Y ∧ y = h.1 52 0 := ⟨_, _, rfl, rfl⟩
  have g2 : 2 ≤ z1Z ∧ z1Z ≤ 4 := inv_at hI z1E z1e rfl
  obtain ⟨z3, z3Z, z3E, z3e⟩ : ∃ (y : Int32) (Y : Int), y.toInt = Y ∧ y = h.1 52 1 := ⟨_, _, rfl, rfl⟩
  have g4 : 2 ≤ z3Z ∧ z3Z ≤ 4 := inv_at hI z3E z3e rfl
  obtain ⟨z5, z5Z, z5E, z5e⟩ : ∃ (y : Int32) (Y : Int), y.toInt = Y ∧ y = h.1 52 2 := ⟨_, _, rfl, rfl⟩
  obtain ⟨z6, z6Z, z6E, z6e⟩ : ∃ (y : Int32) (Y : Int), y.toInt = Y ∧ y = h.1 52 3 := ⟨_, _, rfl, rfl⟩
  refine N_callVV [.ref 52] [] cv_County_47 sk_1 rfl d_County_copyFrom_8 rfl (Nat.le_of_ble_eq_true rfl) (by decide) (by decide) (c_Land_copyX_0_3 h hI z1 z1Z z1E z1e.symm z3 z3Z z3E z3e.symm z5 z5Z z5E z5e.symm z6 z6Z z6E z6e.symm) (fun h8 p9 => ?_)
  obtain ⟨hI10, fh8, p9⟩ := p9
  have f11 : fr S_County_copyX_0_3 h h8 := fr_call f0 fh8 rfl
  have qL := p9
  refine V_aload_n 0 d_County_copyFrom_11 rfl rfl ?_
  refine V_getR fa_County_21 sk_0 rfl d_County_copyFrom_12 ?_
  refine V_aload_n 1 d_County_copyFrom_15 rfl rfl ?_
  refine V_getR fa_County_21 sk_51 rfl d_County_copyFrom_16 ?_
  obtain ⟨z12, z12Z, z12E, z12e⟩ : ∃ (y : Int32) (Y : Int), y.toInt = Y ∧ y = h8.1 58 4 := ⟨_, _, rfl, rfl⟩
  have g13 : 0 ≤ z12Z ∧ z12Z ≤ 8 := inv_at hI10 z12E z12e rfl
  refine N_callVV [.ref 58] [] cv_County_51 sk_7 rfl d_County_copyFrom_19 rfl (Nat.le_of_ble_eq_true rfl) (by decide) (by decide) (c_Ledger_copyX_0_3 h8 hI10 z12 z12Z z12E z12e.symm) (fun h15 p16 => ?_)
  obtain ⟨hI17, fh15, p16⟩ := p16
  have f18 : fr S_County_copyX_0_3 h h15 := fr_call f11 fh15 rfl
  have qG := p16
  refine V_aload_n 0 d_County_copyFrom_22 rfl rfl ?_
  refine V_getR fa_County_28 sk_0 rfl d_County_copyFrom_23 ?_
  refine V_aload_n 1 d_County_copyFrom_26 rfl rfl ?_
  refine V_getR fa_County_28 sk_51 rfl d_County_copyFrom_27 ?_
  obtain ⟨z19, z19Z, z19E, z19e⟩ : ∃ (y : Int32) (Y : Int), y.toInt = Y ∧ y = h15.1 63 4 := ⟨_, _, rfl, rfl⟩
  have g20 : 0 ≤ z19Z ∧ z19Z ≤ 8 := inv_at hI17 z19E z19e rfl
  refine N_callVV [.ref 63] [] cv_County_54 sk_12 rfl d_County_copyFrom_30 rfl (Nat.le_of_ble_eq_true rfl) (by decide) (by decide) (c_Sights_copyX_0_3 h15 hI17 z19 z19Z z19E z19e.symm) (fun h22 p23 => ?_)
  obtain ⟨hI24, fh22, p23⟩ := p23
  have f25 : fr S_County_copyX_0_3 h h22 := fr_call f18 fh22 rfl
  have qS := p23
  refine V_aload_n 0 d_County_copyFrom_33 rfl rfl ?_
  refine V_aload_n 1 d_County_copyFrom_34 rfl rfl ?_
  refine N_getK fa_County_41 sk_51 rfl d_County_copyFrom_35 (kn_call fh22 (kn_call fh15 (kn_call fh8 nK rfl) rfl) rfl) ?_
  refine N_putI fp_County_41 sk_0 rfl d_County_copyFrom_38 (fun h26 eh26 => ?_)
  have hI27 : Inv h26 := inv_full hI24 eh26 rfl
  have f28 : fr S_County_copyX_0_3 h h26 := fr_put f25 eh26 rfl
  refine V_aload_n 0 d_County_copyFrom_41 rfl rfl ?_
  refine V_aload_n 1 d_County_copyFrom_42 rfl rfl ?_
  refine N_getK fa_County_44 sk_51 rfl d_County_copyFrom_43 (kn_ne eh26 (kn_call fh22 (kn_call fh15 (kn_call fh8 mK rfl) rfl) rfl) (by decide)) ?_
  refine N_putI fp_County_44 sk_0 rfl d_County_copyFrom_46 (fun h29 eh29 => ?_)
  have hI30 : Inv h29 := inv_full hI27 eh29 rfl
  have f31 : fr S_County_copyX_0_3 h h29 := fr_put f28 eh29 rfl
  exact V_vret rfl d_County_copyFrom_49 ⟨rfl, ⟨hI30, f31, (cpy_of (a := 0) (b := 51) qL fh15 qG fh22 qS fh8 eh26 eh29 nK mK rfl rfl rfl rfl)⟩⟩
def S_Land_copyX_0_4 : List (Nat × Option Nat) := [(1, none), (2, none), (3, none), (4, none), (5, none), (6, none)]
abbrev q_Land_copyX_0_4 (h : Hp) (w : Int32) (wZ : Int) (g : Int32) (gZ : Int) (x : Int32) (xZ : Int) (y : Int32) (yZ : Int) : Option Value → Hp → Prop := pVd (fun h' => Inv h' ∧ fr S_Land_copyX_0_4 h h' ∧ (h'.1 1 0 = h.1 69 0 ∧ h'.1 1 1 = h.1 69 1 ∧ h'.1 1 2 = h.1 69 2 ∧ h'.1 1 3 = h.1 69 3 ∧ rcp h h' 2 70 16 ∧ rcp h h' 3 71 16 ∧ rcp h h' 4 72 16 ∧ rcp h h' 5 73 16 ∧ rcp h h' 6 74 16))
set_option maxRecDepth 100000 in
theorem c_Land_copyX_0_4 (h : Hp) (hI : Inv h) (w : Int32) (wZ : Int) (wE : w.toInt = wZ) (wK : h.1 69 0 = w) (g : Int32) (gZ : Int) (gE : g.toInt = gZ) (gK : h.1 69 1 = g) (x : Int32) (xZ : Int) (xE : x.toInt = xZ) (xK : h.1 69 2 = x) (y : Int32) (yZ : Int) (yE : y.toInt = yZ) (yK : h.1 69 3 = y) : Ct y_Land_copyFrom b_Land_copyFrom 2 none 1 60 [.ref 1, .ref 69] h (q_Land_copyX_0_4 h w wZ g gZ x xZ y yZ) := by
  refine ct_ow R_Land [some (.ref 1), some (.ref 69)] rfl (by decide) rfl (Nat.le_of_ble_eq_true rfl) ?_
  have f0 : fr S_Land_copyX_0_4 h h := fr_rf
  have g1 : 2 ≤ wZ ∧ wZ ≤ 4 := inv_at hI wE wK.symm rfl
  have g2 : 2 ≤ gZ ∧ gZ ≤ 4 := inv_at hI gE gK.symm rfl
  refine V_aload_n 0 d_Land_copyFrom_0 rfl rfl ?_
  refine V_aload_n 1 d_Land_copyFrom_1 rfl rfl ?_
  refine N_getK fa_Land_27 sk_69 rfl d_Land_copyFrom_2 wK ?_
  refine N_putI fp_Land_27 sk_1 rfl d_Land_copyFrom_5 (fun h3 eh3 => ?_)
  have hI4 : Inv h3 := inv_put (lo := 2) (hi := 4) hI eh3 rfl wE (by (first | decide +kernel | omega))
  have f5 : fr S_Land_copyX_0_4 h h3 := fr_put f0 eh3 rfl
  refine V_aload_n 0 d_Land_copyFrom_8 rfl rfl ?_
  refine V_aload_n 1 d_Land_copyFrom_9 rfl rfl ?_
  refine N_getK fa_Land_31 sk_69 rfl d_Land_copyFrom_10 (kn_ne eh3 gK (by decide)) ?_
  refine N_putI fp_Land_31 sk_1 rfl d_Land_copyFrom_13 (fun h6 eh6 => ?_)
  have hI7 : Inv h6 := inv_put (lo := 2) (hi := 4) hI4 eh6 rfl gE (by (first | decide +kernel | omega))
  have f8 : fr S_Land_copyX_0_4 h h6 := fr_put f5 eh6 rfl
  refine V_aload_n 0 d_Land_copyFrom_16 rfl rfl ?_
  refine V_aload_n 1 d_Land_copyFrom_17 rfl rfl ?_
  refine N_getK fa_Land_34 sk_69 rfl d_Land_copyFrom_18 (kn_ne eh6 (kn_ne eh3 xK (by decide)) (by decide)) ?_
  refine N_putI fp_Land_34 sk_1 rfl d_Land_copyFrom_21 (fun h9 eh9 => ?_)
  have hI10 : Inv h9 := inv_full hI7 eh9 rfl
  have f11 : fr S_Land_copyX_0_4 h h9 := fr_put f8 eh9 rfl
  refine V_aload_n 0 d_Land_copyFrom_24 rfl rfl ?_
  refine V_aload_n 1 d_Land_copyFrom_25 rfl rfl ?_
  refine N_getK fa_Land_37 sk_69 rfl d_Land_copyFrom_26 (kn_ne eh9 (kn_ne eh6 (kn_ne eh3 yK (by decide)) (by decide)) (by decide)) ?_
  refine N_putI fp_Land_37 sk_1 rfl d_Land_copyFrom_29 (fun h12 eh12 => ?_)
  have hI13 : Inv h12 := inv_full hI10 eh12 rfl
  have f14 : fr S_Land_copyX_0_4 h h12 := fr_put f11 eh12 rfl
  refine V_aload_n 1 d_Land_copyFrom_32 rfl rfl ?_
  refine V_getR fa_Land_9 sk_69 rfl d_Land_copyFrom_33 ?_
  refine V_iconst 0 d_Land_copyFrom_36 (by decide) ?_
  refine V_aload_n 0 d_Land_copyFrom_37 rfl rfl ?_
  refine V_getR fa_Land_9 sk_1 rfl d_Land_copyFrom_38 ?_
  refine V_iconst 0 d_Land_copyFrom_41 (by decide) ?_
  refine V_bipush 16 d_Land_copyFrom_42 (by decide) ?_
  refine N_acopy sk_70 sk_2 tc_0 tc_0 tc_16 (by (first | decide +kernel | omega)) wa_Land_46 wA1 wA2 wA3 d_Land_copyFrom_44 (by decide) (Nat.le_of_ble_eq_true rfl) (fun h15 eh15 => ?_)
  have hI16 : Inv h15 := inv_cpy (n := 16) hI13 eh15 (fun _ => rfl)
  have f17 : fr S_Land_copyX_0_4 h h15 := fr_row f14 eh15 (fun _ => rfl)
  have C18 : rcp h h15 2 70 16 := rcp_now f14 (fun _ => rfl) eh15
  refine V_aload_n 1 d_Land_copyFrom_47 rfl rfl ?_
  refine V_getR fa_Land_15 sk_69 rfl d_Land_copyFrom_48 ?_
  refine V_iconst 0 d_Land_copyFrom_51 (by decide) ?_
  refine V_aload_n 0 d_Land_copyFrom_52 rfl rfl ?_
  refine V_getR fa_Land_15 sk_1 rfl d_Land_copyFrom_53 ?_
  refine V_iconst 0 d_Land_copyFrom_56 (by decide) ?_
  refine V_bipush 16 d_Land_copyFrom_57 (by decide) ?_
  refine N_acopy sk_71 sk_3 tc_0 tc_0 tc_16 (by (first | decide +kernel | omega)) wa_Land_46 wA1 wA2 wA3 d_Land_copyFrom_59 (by decide) (Nat.le_of_ble_eq_true rfl) (fun h19 eh19 => ?_)
  have hI20 : Inv h19 := inv_cpy (n := 16) hI16 eh19 (fun _ => rfl)
  have f21 : fr S_Land_copyX_0_4 h h19 := fr_row f17 eh19 (fun _ => rfl)
  have C22 : rcp h h19 2 70 16 := rcp_row C18 eh19 (by decide)
  have C23 : rcp h h19 3 71 16 := rcp_now f17 (fun _ => rfl) eh19
  refine V_aload_n 1 d_Land_copyFrom_62 rfl rfl ?_
  refine V_getR fa_Land_18 sk_69 rfl d_Land_copyFrom_63 ?_
  refine V_iconst 0 d_Land_copyFrom_66 (by decide) ?_
  refine V_aload_n 0 d_Land_copyFrom_67 rfl rfl ?_
  refine V_getR fa_Land_18 sk_1 rfl d_Land_copyFrom_68 ?_
  refine V_iconst 0 d_Land_copyFrom_71 (by decide) ?_
  refine V_bipush 16 d_Land_copyFrom_72 (by decide) ?_
  refine N_acopy sk_72 sk_4 tc_0 tc_0 tc_16 (by (first | decide +kernel | omega)) wa_Land_46 wA1 wA2 wA3 d_Land_copyFrom_74 (by decide) (Nat.le_of_ble_eq_true rfl) (fun h24 eh24 => ?_)
  have hI25 : Inv h24 := inv_cpy (n := 16) hI20 eh24 (fun _ => rfl)
  have f26 : fr S_Land_copyX_0_4 h h24 := fr_row f21 eh24 (fun _ => rfl)
  have C27 : rcp h h24 2 70 16 := rcp_row C22 eh24 (by decide)
  have C28 : rcp h h24 3 71 16 := rcp_row C23 eh24 (by decide)
  have C29 : rcp h h24 4 72 16 := rcp_now f21 (fun _ => rfl) eh24
  refine V_aload_n 1 d_Land_copyFrom_77 rfl rfl ?_
  refine V_getR fa_Land_21 sk_69 rfl d_Land_copyFrom_78 ?_
  refine V_iconst 0 d_Land_copyFrom_81 (by decide) ?_
  refine V_aload_n 0 d_Land_copyFrom_82 rfl rfl ?_
  refine V_getR fa_Land_21 sk_1 rfl d_Land_copyFrom_83 ?_
  refine V_iconst 0 d_Land_copyFrom_86 (by decide) ?_
  refine V_bipush 16 d_Land_copyFrom_87 (by decide) ?_
  refine N_acopy sk_73 sk_5 tc_0 tc_0 tc_16 (by (first | decide +kernel | omega)) wa_Land_46 wA1 wA2 wA3 d_Land_copyFrom_89 (by decide) (Nat.le_of_ble_eq_true rfl) (fun h30 eh30 => ?_)
  have hI31 : Inv h30 := inv_cpy (n := 16) hI25 eh30 (fun _ => rfl)
  have f32 : fr S_Land_copyX_0_4 h h30 := fr_row f26 eh30 (fun _ => rfl)
  have C33 : rcp h h30 2 70 16 := rcp_row C27 eh30 (by decide)
  have C34 : rcp h h30 3 71 16 := rcp_row C28 eh30 (by decide)
  have C35 : rcp h h30 4 72 16 := rcp_row C29 eh30 (by decide)
  have C36 : rcp h h30 5 73 16 := rcp_now f26 (fun _ => rfl) eh30
  refine V_aload_n 1 d_Land_copyFrom_92 rfl rfl ?_
  refine V_getR fa_Land_24 sk_69 rfl d_Land_copyFrom_93 ?_
  refine V_iconst 0 d_Land_copyFrom_96 (by decide) ?_
  refine V_aload_n 0 d_Land_copyFrom_97 rfl rfl ?_
  refine V_getR fa_Land_24 sk_1 rfl d_Land_copyFrom_98 ?_
  refine V_iconst 0 d_Land_copyFrom_101 (by decide) ?_
  refine V_bipush 16 d_Land_copyFrom_102 (by decide) ?_
  refine N_acopy sk_74 sk_6 tc_0 tc_0 tc_16 (by (first | decide +kernel | omega)) wa_Land_46 wA1 wA2 wA3 d_Land_copyFrom_104 (by decide) (Nat.le_of_ble_eq_true rfl) (fun h37 eh37 => ?_)
  have hI38 : Inv h37 := inv_cpy (n := 16) hI31 eh37 (fun _ => rfl)
  have f39 : fr S_Land_copyX_0_4 h h37 := fr_row f32 eh37 (fun _ => rfl)
  have C40 : rcp h h37 2 70 16 := rcp_row C33 eh37 (by decide)
  have C41 : rcp h h37 3 71 16 := rcp_row C34 eh37 (by decide)
  have C42 : rcp h h37 4 72 16 := rcp_row C35 eh37 (by decide)
  have C43 : rcp h h37 5 73 16 := rcp_row C36 eh37 (by decide)
  have C44 : rcp h h37 6 74 16 := rcp_now f32 (fun _ => rfl) eh37
  exact V_vret rfl d_Land_copyFrom_107 ⟨rfl, ⟨hI38, f39, ⟨((kn_row eh37 (kn_row eh30 (kn_row eh24 (kn_row eh19 (kn_row eh15 (kn_nei eh12 (kn_nei eh9 (kn_nei eh6 (kn_put eh3) (by decide)) (by decide)) (by decide)) (by decide)) (by decide)) (by decide)) (by decide)) (by decide)).trans wK.symm), ((kn_row eh37 (kn_row eh30 (kn_row eh24 (kn_row eh19 (kn_row eh15 (kn_nei eh12 (kn_nei eh9 (kn_put eh6) (by decide)) (by decide)) (by decide)) (by decide)) (by decide)) (by decide)) (by decide)).trans gK.symm), ((kn_row eh37 (kn_row eh30 (kn_row eh24 (kn_row eh19 (kn_row eh15 (kn_nei eh12 (kn_put eh9) (by decide)) (by decide)) (by decide)) (by decide)) (by decide)) (by decide)).trans xK.symm), ((kn_row eh37 (kn_row eh30 (kn_row eh24 (kn_row eh19 (kn_row eh15 (kn_put eh12) (by decide)) (by decide)) (by decide)) (by decide)) (by decide)).trans yK.symm), C40, C41, C42, C43, C44⟩⟩⟩
def S_Ledger_copyX_0_4 : List (Nat × Option Nat) := [(7, some 4), (8, none), (9, none), (10, none), (11, none)]
abbrev q_Ledger_copyX_0_4 (h : Hp) (t : Int32) (tZ : Int) : Option Value → Hp → Prop := pVd (fun h' => Inv h' ∧ fr S_Ledger_copyX_0_4 h h' ∧ (h'.1 7 4 = h.1 75 4 ∧ rcp h h' 8 76 4 ∧ rcp h h' 9 77 8 ∧ rcp h h' 10 78 8 ∧ rcp h h' 11 79 8))
set_option maxRecDepth 100000 in
theorem c_Ledger_copyX_0_4 (h : Hp) (hI : Inv h) (t : Int32) (tZ : Int) (tE : t.toInt = tZ) (tK : h.1 75 4 = t) : Ct y_Ledger_copyFrom b_Ledger_copyFrom 2 none 1 60 [.ref 7, .ref 75] h (q_Ledger_copyX_0_4 h t tZ) := by
  refine ct_ow R_Ledger [some (.ref 7), some (.ref 75)] rfl (by decide) rfl (Nat.le_of_ble_eq_true rfl) ?_
  have f0 : fr S_Ledger_copyX_0_4 h h := fr_rf
  have g1 : 0 ≤ tZ ∧ tZ ≤ 8 := inv_at hI tE tK.symm rfl
  refine V_aload_n 1 d_Ledger_copyFrom_0 rfl rfl ?_
  refine V_getR fa_Ledger_9 sk_75 rfl d_Ledger_copyFrom_1 ?_
  refine V_iconst 0 d_Ledger_copyFrom_4 (by decide) ?_
  refine V_aload_n 0 d_Ledger_copyFrom_5 rfl rfl ?_
  refine V_getR fa_Ledger_9 sk_7 rfl d_Ledger_copyFrom_6 ?_
  refine V_iconst 0 d_Ledger_copyFrom_9 (by decide) ?_
  refine V_iconst 4 d_Ledger_copyFrom_10 (by decide) ?_
  refine N_acopy sk_76 sk_8 tc_0 tc_0 tc_4 (by (first | decide +kernel | omega)) wa_Ledger_34 wA1 wA2 wA3 d_Ledger_copyFrom_11 (by decide) (Nat.le_of_ble_eq_true rfl) (fun h2 eh2 => ?_)
  have hI3 : Inv h2 := inv_cpy (n := 4) hI eh2 (fun _ => rfl)
  have f4 : fr S_Ledger_copyX_0_4 h h2 := fr_row f0 eh2 (fun _ => rfl)
  have C5 : rcp h h2 8 76 4 := rcp_now f0 (fun _ => rfl) eh2
  refine V_aload_n 1 d_Ledger_copyFrom_14 rfl rfl ?_
  refine V_getR fa_Ledger_15 sk_75 rfl d_Ledger_copyFrom_15 ?_
  refine V_iconst 0 d_Ledger_copyFrom_18 (by decide) ?_
  refine V_aload_n 0 d_Ledger_copyFrom_19 rfl rfl ?_
  refine V_getR fa_Ledger_15 sk_7 rfl d_Ledger_copyFrom_20 ?_
  refine V_iconst 0 d_Ledger_copyFrom_23 (by decide) ?_
  refine V_bipush 8 d_Ledger_copyFrom_24 (by decide) ?_
  refine N_acopy sk_77 sk_9 tc_0 tc_0 tc_8 (by (first | decide +kernel | omega)) wa_Ledger_34 wA1 wA2 wA3 d_Ledger_copyFrom_26 (by decide) (Nat.le_of_ble_eq_true rfl) (fun h6 eh6 => ?_)
  have hI7 : Inv h6 := inv_cpy (n := 8) hI3 eh6 (fun _ => rfl)
  have f8 : fr S_Ledger_copyX_0_4 h h6 := fr_row f4 eh6 (fun _ => rfl)
  have C9 : rcp h h6 8 76 4 := rcp_row C5 eh6 (by decide)
  have C10 : rcp h h6 9 77 8 := rcp_now f4 (fun _ => rfl) eh6
  refine V_aload_n 1 d_Ledger_copyFrom_29 rfl rfl ?_
  refine V_getR fa_Ledger_18 sk_75 rfl d_Ledger_copyFrom_30 ?_
  refine V_iconst 0 d_Ledger_copyFrom_33 (by decide) ?_
  refine V_aload_n 0 d_Ledger_copyFrom_34 rfl rfl ?_
  refine V_getR fa_Ledger_18 sk_7 rfl d_Ledger_copyFrom_35 ?_
  refine V_iconst 0 d_Ledger_copyFrom_38 (by decide) ?_
  refine V_bipush 8 d_Ledger_copyFrom_39 (by decide) ?_
  refine N_acopy sk_78 sk_10 tc_0 tc_0 tc_8 (by (first | decide +kernel | omega)) wa_Ledger_34 wA1 wA2 wA3 d_Ledger_copyFrom_41 (by decide) (Nat.le_of_ble_eq_true rfl) (fun h11 eh11 => ?_)
  have hI12 : Inv h11 := inv_cpy (n := 8) hI7 eh11 (fun _ => rfl)
  have f13 : fr S_Ledger_copyX_0_4 h h11 := fr_row f8 eh11 (fun _ => rfl)
  have C14 : rcp h h11 8 76 4 := rcp_row C9 eh11 (by decide)
  have C15 : rcp h h11 9 77 8 := rcp_row C10 eh11 (by decide)
  have C16 : rcp h h11 10 78 8 := rcp_now f8 (fun _ => rfl) eh11
  refine V_aload_n 1 d_Ledger_copyFrom_44 rfl rfl ?_
  refine V_getR fa_Ledger_21 sk_75 rfl d_Ledger_copyFrom_45 ?_
  refine V_iconst 0 d_Ledger_copyFrom_48 (by decide) ?_
  refine V_aload_n 0 d_Ledger_copyFrom_49 rfl rfl ?_
  refine V_getR fa_Ledger_21 sk_7 rfl d_Ledger_copyFrom_50 ?_
  refine V_iconst 0 d_Ledger_copyFrom_53 (by decide) ?_
  refine V_bipush 8 d_Ledger_copyFrom_54 (by decide) ?_
  refine N_acopy sk_79 sk_11 tc_0 tc_0 tc_8 (by (first | decide +kernel | omega)) wa_Ledger_34 wA1 wA2 wA3 d_Ledger_copyFrom_56 (by decide) (Nat.le_of_ble_eq_true rfl) (fun h17 eh17 => ?_)
  have hI18 : Inv h17 := inv_cpy (n := 8) hI12 eh17 (fun _ => rfl)
  have f19 : fr S_Ledger_copyX_0_4 h h17 := fr_row f13 eh17 (fun _ => rfl)
  have C20 : rcp h h17 8 76 4 := rcp_row C14 eh17 (by decide)
  have C21 : rcp h h17 9 77 8 := rcp_row C15 eh17 (by decide)
  have C22 : rcp h h17 10 78 8 := rcp_row C16 eh17 (by decide)
  have C23 : rcp h h17 11 79 8 := rcp_now f13 (fun _ => rfl) eh17
  refine V_aload_n 0 d_Ledger_copyFrom_59 rfl rfl ?_
  refine V_aload_n 1 d_Ledger_copyFrom_60 rfl rfl ?_
  refine N_getK fa_Ledger_30 sk_75 rfl d_Ledger_copyFrom_61 (kn_row eh17 (kn_row eh11 (kn_row eh6 (kn_row eh2 tK (by decide)) (by decide)) (by decide)) (by decide)) ?_
  refine N_putI fp_Ledger_30 sk_7 rfl d_Ledger_copyFrom_64 (fun h24 eh24 => ?_)
  have hI25 : Inv h24 := inv_put (lo := 0) (hi := 8) hI18 eh24 rfl tE (by (first | decide +kernel | omega))
  have f26 : fr S_Ledger_copyX_0_4 h h24 := fr_put f19 eh24 rfl
  have C27 : rcp h h24 8 76 4 := rcp_put C20 eh24 (by decide)
  have C28 : rcp h h24 9 77 8 := rcp_put C21 eh24 (by decide)
  have C29 : rcp h h24 10 78 8 := rcp_put C22 eh24 (by decide)
  have C30 : rcp h h24 11 79 8 := rcp_put C23 eh24 (by decide)
  exact V_vret rfl d_Ledger_copyFrom_67 ⟨rfl, ⟨hI25, f26, ⟨((kn_put eh24).trans tK.symm), C27, C28, C29, C30⟩⟩⟩
def S_Sights_copyX_0_4 : List (Nat × Option Nat) := [(12, some 4), (13, none), (14, none), (15, none), (16, none)]
abbrev q_Sights_copyX_0_4 (h : Hp) (t : Int32) (tZ : Int) : Option Value → Hp → Prop := pVd (fun h' => Inv h' ∧ fr S_Sights_copyX_0_4 h h' ∧ (h'.1 12 4 = h.1 80 4 ∧ rcp h h' 13 81 8 ∧ rcp h h' 14 82 8 ∧ rcp h h' 15 83 8 ∧ rcp h h' 16 84 8))
set_option maxRecDepth 100000 in
theorem c_Sights_copyX_0_4 (h : Hp) (hI : Inv h) (t : Int32) (tZ : Int) (tE : t.toInt = tZ) (tK : h.1 80 4 = t) : Ct y_Sights_copyFrom b_Sights_copyFrom 2 none 1 60 [.ref 12, .ref 80] h (q_Sights_copyX_0_4 h t tZ) := by
  refine ct_ow R_Sights [some (.ref 12), some (.ref 80)] rfl (by decide) rfl (Nat.le_of_ble_eq_true rfl) ?_
  have f0 : fr S_Sights_copyX_0_4 h h := fr_rf
  have g1 : 0 ≤ tZ ∧ tZ ≤ 8 := inv_at hI tE tK.symm rfl
  refine V_aload_n 1 d_Sights_copyFrom_0 rfl rfl ?_
  refine V_getR fa_Sights_9 sk_80 rfl d_Sights_copyFrom_1 ?_
  refine V_iconst 0 d_Sights_copyFrom_4 (by decide) ?_
  refine V_aload_n 0 d_Sights_copyFrom_5 rfl rfl ?_
  refine V_getR fa_Sights_9 sk_12 rfl d_Sights_copyFrom_6 ?_
  refine V_iconst 0 d_Sights_copyFrom_9 (by decide) ?_
  refine V_bipush 8 d_Sights_copyFrom_10 (by decide) ?_
  refine N_acopy sk_81 sk_13 tc_0 tc_0 tc_8 (by (first | decide +kernel | omega)) wa_Sights_24 wA1 wA2 wA3 d_Sights_copyFrom_12 (by decide) (Nat.le_of_ble_eq_true rfl) (fun h2 eh2 => ?_)
  have hI3 : Inv h2 := inv_cpy (n := 8) hI eh2 (fun _ => rfl)
  have f4 : fr S_Sights_copyX_0_4 h h2 := fr_row f0 eh2 (fun _ => rfl)
  have C5 : rcp h h2 13 81 8 := rcp_now f0 (fun _ => rfl) eh2
  refine V_aload_n 1 d_Sights_copyFrom_15 rfl rfl ?_
  refine V_getR fa_Sights_15 sk_80 rfl d_Sights_copyFrom_16 ?_
  refine V_iconst 0 d_Sights_copyFrom_19 (by decide) ?_
  refine V_aload_n 0 d_Sights_copyFrom_20 rfl rfl ?_
  refine V_getR fa_Sights_15 sk_12 rfl d_Sights_copyFrom_21 ?_
  refine V_iconst 0 d_Sights_copyFrom_24 (by decide) ?_
  refine V_bipush 8 d_Sights_copyFrom_25 (by decide) ?_
  refine N_acopy sk_82 sk_14 tc_0 tc_0 tc_8 (by (first | decide +kernel | omega)) wa_Sights_24 wA1 wA2 wA3 d_Sights_copyFrom_27 (by decide) (Nat.le_of_ble_eq_true rfl) (fun h6 eh6 => ?_)
  have hI7 : Inv h6 := inv_cpy (n := 8) hI3 eh6 (fun _ => rfl)
  have f8 : fr S_Sights_copyX_0_4 h h6 := fr_row f4 eh6 (fun _ => rfl)
  have C9 : rcp h h6 13 81 8 := rcp_row C5 eh6 (by decide)
  have C10 : rcp h h6 14 82 8 := rcp_now f4 (fun _ => rfl) eh6
  refine V_aload_n 1 d_Sights_copyFrom_30 rfl rfl ?_
  refine V_getR fa_Sights_18 sk_80 rfl d_Sights_copyFrom_31 ?_
  refine V_iconst 0 d_Sights_copyFrom_34 (by decide) ?_
  refine V_aload_n 0 d_Sights_copyFrom_35 rfl rfl ?_
  refine V_getR fa_Sights_18 sk_12 rfl d_Sights_copyFrom_36 ?_
  refine V_iconst 0 d_Sights_copyFrom_39 (by decide) ?_
  refine V_bipush 8 d_Sights_copyFrom_40 (by decide) ?_
  refine N_acopy sk_83 sk_15 tc_0 tc_0 tc_8 (by (first | decide +kernel | omega)) wa_Sights_24 wA1 wA2 wA3 d_Sights_copyFrom_42 (by decide) (Nat.le_of_ble_eq_true rfl) (fun h11 eh11 => ?_)
  have hI12 : Inv h11 := inv_cpy (n := 8) hI7 eh11 (fun _ => rfl)
  have f13 : fr S_Sights_copyX_0_4 h h11 := fr_row f8 eh11 (fun _ => rfl)
  have C14 : rcp h h11 13 81 8 := rcp_row C9 eh11 (by decide)
  have C15 : rcp h h11 14 82 8 := rcp_row C10 eh11 (by decide)
  have C16 : rcp h h11 15 83 8 := rcp_now f8 (fun _ => rfl) eh11
  refine V_aload_n 1 d_Sights_copyFrom_45 rfl rfl ?_
  refine V_getR fa_Sights_21 sk_80 rfl d_Sights_copyFrom_46 ?_
  refine V_iconst 0 d_Sights_copyFrom_49 (by decide) ?_
  refine V_aload_n 0 d_Sights_copyFrom_50 rfl rfl ?_
  refine V_getR fa_Sights_21 sk_12 rfl d_Sights_copyFrom_51 ?_
  refine V_iconst 0 d_Sights_copyFrom_54 (by decide) ?_
  refine V_bipush 8 d_Sights_copyFrom_55 (by decide) ?_
  refine N_acopy sk_84 sk_16 tc_0 tc_0 tc_8 (by (first | decide +kernel | omega)) wa_Sights_24 wA1 wA2 wA3 d_Sights_copyFrom_57 (by decide) (Nat.le_of_ble_eq_true rfl) (fun h17 eh17 => ?_)
  have hI18 : Inv h17 := inv_cpy (n := 8) hI12 eh17 (fun _ => rfl)
  have f19 : fr S_Sights_copyX_0_4 h h17 := fr_row f13 eh17 (fun _ => rfl)
  have C20 : rcp h h17 13 81 8 := rcp_row C14 eh17 (by decide)
  have C21 : rcp h h17 14 82 8 := rcp_row C15 eh17 (by decide)
  have C22 : rcp h h17 15 83 8 := rcp_row C16 eh17 (by decide)
  have C23 : rcp h h17 16 84 8 := rcp_now f13 (fun _ => rfl) eh17
  refine V_aload_n 0 d_Sights_copyFrom_60 rfl rfl ?_
  refine V_aload_n 1 d_Sights_copyFrom_61 rfl rfl ?_
  refine N_getK fa_Sights_30 sk_80 rfl d_Sights_copyFrom_62 (kn_row eh17 (kn_row eh11 (kn_row eh6 (kn_row eh2 tK (by decide)) (by decide)) (by decide)) (by decide)) ?_
  refine N_putI fp_Sights_30 sk_12 rfl d_Sights_copyFrom_65 (fun h24 eh24 => ?_)
  have hI25 : Inv h24 := inv_put (lo := 0) (hi := 8) hI18 eh24 rfl tE (by (first | decide +kernel | omega))
  have f26 : fr S_Sights_copyX_0_4 h h24 := fr_put f19 eh24 rfl
  have C27 : rcp h h24 13 81 8 := rcp_put C20 eh24 (by decide)
  have C28 : rcp h h24 14 82 8 := rcp_put C21 eh24 (by decide)
  have C29 : rcp h h24 15 83 8 := rcp_put C22 eh24 (by decide)
  have C30 : rcp h h24 16 84 8 := rcp_put C23 eh24 (by decide)
  exact V_vret rfl d_Sights_copyFrom_68 ⟨rfl, ⟨hI25, f26, ⟨((kn_put eh24).trans tK.symm), C27, C28, C29, C30⟩⟩⟩
def S_County_copyX_0_4 : List (Nat × Option Nat) := [(0, some 3), (0, some 4), (1, none), (2, none), (3, none), (4, none), (5, none), (6, none), (7, some 4), (8, none), (9, none), (10, none), (11, none), (12, some 4), (13, none), (14, none), (15, none), (16, none)]
abbrev q_County_copyX_0_4 (h : Hp) (n : Int32) (nZ : Int) (m : Int32) (mZ : Int) : Option Value → Hp → Prop := pVd (fun h' => Inv h' ∧ fr S_County_copyX_0_4 h h' ∧ (cpy h h' 0 68))
set_option maxRecDepth 100000 in
theorem c_County_copyX_0_4 (h : Hp) (hI : Inv h) (n : Int32) (nZ : Int) (nE : n.toInt = nZ) (nK : h.1 68 3 = n) (m : Int32) (mZ : Int) (mE : m.toInt = mZ) (mK : h.1 68 4 = m) : Ct y_County_copyFrom b_County_copyFrom 2 none 2 81 [.ref 0, .ref 68] h (q_County_copyX_0_4 h n nZ m mZ) := by
  refine ct_ow R_County [some (.ref 0), some (.ref 68)] rfl (by decide) rfl (Nat.le_of_ble_eq_true rfl) ?_
  have f0 : fr S_County_copyX_0_4 h h := fr_rf
  refine V_aload_n 0 d_County_copyFrom_0 rfl rfl ?_
  refine V_getR fa_County_12 sk_0 rfl d_County_copyFrom_1 ?_
  refine V_aload_n 1 d_County_copyFrom_4 rfl rfl ?_
  refine V_getR fa_County_12 sk_68 rfl d_County_copyFrom_5 ?_
  obtain ⟨z1, z1Z, z1E, z1e⟩ : ∃ (y : Int32) (Y : Int), y.toInt = Y ∧ y = h.1 69 0 := ⟨_, _, rfl, rfl⟩
  have g2 : 2 ≤ z1Z ∧ z1Z ≤ 4 := inv_at hI z1E z1e rfl
  obtain ⟨z3, z3Z, z3E, z3e⟩ : ∃ (y : Int32) (Y : Int), y.toInt = Y ∧ y = h.1 69 1 := ⟨_, _, rfl, rfl⟩
  have g4 : 2 ≤ z3Z ∧ z3Z ≤ 4 := inv_at hI z3E z3e rfl
  obtain ⟨z5, z5Z, z5E, z5e⟩ : ∃ (y : Int32) (Y : Int), y.toInt = Y ∧ y = h.1 69 2 := ⟨_, _, rfl, rfl⟩
  obtain ⟨z6, z6Z, z6E, z6e⟩ : ∃ (y : Int32) (Y : Int), y.toInt = Y ∧ y = h.1 69 3 := ⟨_, _, rfl, rfl⟩
  refine N_callVV [.ref 69] [] cv_County_47 sk_1 rfl d_County_copyFrom_8 rfl (Nat.le_of_ble_eq_true rfl) (by decide) (by decide) (c_Land_copyX_0_4 h hI z1 z1Z z1E z1e.symm z3 z3Z z3E z3e.symm z5 z5Z z5E z5e.symm z6 z6Z z6E z6e.symm) (fun h8 p9 => ?_)
  obtain ⟨hI10, fh8, p9⟩ := p9
  have f11 : fr S_County_copyX_0_4 h h8 := fr_call f0 fh8 rfl
  have qL := p9
  refine V_aload_n 0 d_County_copyFrom_11 rfl rfl ?_
  refine V_getR fa_County_21 sk_0 rfl d_County_copyFrom_12 ?_
  refine V_aload_n 1 d_County_copyFrom_15 rfl rfl ?_
  refine V_getR fa_County_21 sk_68 rfl d_County_copyFrom_16 ?_
  obtain ⟨z12, z12Z, z12E, z12e⟩ : ∃ (y : Int32) (Y : Int), y.toInt = Y ∧ y = h8.1 75 4 := ⟨_, _, rfl, rfl⟩
  have g13 : 0 ≤ z12Z ∧ z12Z ≤ 8 := inv_at hI10 z12E z12e rfl
  refine N_callVV [.ref 75] [] cv_County_51 sk_7 rfl d_County_copyFrom_19 rfl (Nat.le_of_ble_eq_true rfl) (by decide) (by decide) (c_Ledger_copyX_0_4 h8 hI10 z12 z12Z z12E z12e.symm) (fun h15 p16 => ?_)
  obtain ⟨hI17, fh15, p16⟩ := p16
  have f18 : fr S_County_copyX_0_4 h h15 := fr_call f11 fh15 rfl
  have qG := p16
  refine V_aload_n 0 d_County_copyFrom_22 rfl rfl ?_
  refine V_getR fa_County_28 sk_0 rfl d_County_copyFrom_23 ?_
  refine V_aload_n 1 d_County_copyFrom_26 rfl rfl ?_
  refine V_getR fa_County_28 sk_68 rfl d_County_copyFrom_27 ?_
  obtain ⟨z19, z19Z, z19E, z19e⟩ : ∃ (y : Int32) (Y : Int), y.toInt = Y ∧ y = h15.1 80 4 := ⟨_, _, rfl, rfl⟩
  have g20 : 0 ≤ z19Z ∧ z19Z ≤ 8 := inv_at hI17 z19E z19e rfl
  refine N_callVV [.ref 80] [] cv_County_54 sk_12 rfl d_County_copyFrom_30 rfl (Nat.le_of_ble_eq_true rfl) (by decide) (by decide) (c_Sights_copyX_0_4 h15 hI17 z19 z19Z z19E z19e.symm) (fun h22 p23 => ?_)
  obtain ⟨hI24, fh22, p23⟩ := p23
  have f25 : fr S_County_copyX_0_4 h h22 := fr_call f18 fh22 rfl
  have qS := p23
  refine V_aload_n 0 d_County_copyFrom_33 rfl rfl ?_
  refine V_aload_n 1 d_County_copyFrom_34 rfl rfl ?_
  refine N_getK fa_County_41 sk_68 rfl d_County_copyFrom_35 (kn_call fh22 (kn_call fh15 (kn_call fh8 nK rfl) rfl) rfl) ?_
  refine N_putI fp_County_41 sk_0 rfl d_County_copyFrom_38 (fun h26 eh26 => ?_)
  have hI27 : Inv h26 := inv_full hI24 eh26 rfl
  have f28 : fr S_County_copyX_0_4 h h26 := fr_put f25 eh26 rfl
  refine V_aload_n 0 d_County_copyFrom_41 rfl rfl ?_
  refine V_aload_n 1 d_County_copyFrom_42 rfl rfl ?_
  refine N_getK fa_County_44 sk_68 rfl d_County_copyFrom_43 (kn_ne eh26 (kn_call fh22 (kn_call fh15 (kn_call fh8 mK rfl) rfl) rfl) (by decide)) ?_
  refine N_putI fp_County_44 sk_0 rfl d_County_copyFrom_46 (fun h29 eh29 => ?_)
  have hI30 : Inv h29 := inv_full hI27 eh29 rfl
  have f31 : fr S_County_copyX_0_4 h h29 := fr_put f28 eh29 rfl
  exact V_vret rfl d_County_copyFrom_49 ⟨rfl, ⟨hI30, f31, (cpy_of (a := 0) (b := 68) qL fh15 qG fh22 qS fh8 eh26 eh29 nK mK rfl rfl rfl rfl)⟩⟩
end
section
def S_Mod_copiesX : List (Nat × Option Nat) := [(117, none)]
abbrev q_Mod_copiesX (h : Hp) (t : Int32) (tZ : Int) (f : Int32) (fZ : Int) : Option Value → Hp → Prop := pVd (fun h' => Inv h' ∧ fr S_Mod_copiesX h h' ∧ (mcl h h' tZ fZ 144))
set_option maxRecDepth 100000 in
theorem c_Mod_copiesX (h : Hp) (hI : Inv h) (t : Int32) (tZ : Int) (tE : t.toInt = tZ) (f : Int32) (fZ : Int) (fE : f.toInt = fZ) (hy0 : (tZ = 0 ∨ tZ = 144 ∨ tZ = 288) ∧ (fZ = 0 ∨ fZ = 144 ∨ fZ = 288)) (hy1 : tZ ≠ fZ) : Ct y_Mod_copies b_Mod_copies 4 none 0 0 [.ref 116, .int t, .int f] h (q_Mod_copiesX h t tZ f fZ) := by
  refine ct_ow R_Mod [some (.ref 116), some (.int t), some (.int f), none] rfl (by decide) rfl (Nat.le_of_ble_eq_true rfl) ?_
  have f0 : fr S_Mod_copiesX h h := fr_rf
  refine V_iconst 0 d_Mod_copies_0 (by decide) ?_
  refine V_istore_n 3 [some (.ref 116), some (.int t), some (.int f), some (.int 0)] d_Mod_copies_1 rfl (by decide) rfl rfl ?_
  have L1 : ∀ (nn : Nat) (v3 : Int32) (v3Z : Int) (h4 : Hp), v3.toInt = v3Z → Inv h4 → fr S_Mod_copiesX h h4 → 0 ≤ v3Z ∧ v3Z ≤ 144 → mcl h h4 tZ fZ v3Z → 144 - v3Z < (nn : Int) → V R_Mod b_Mod_copies 4 none 0 0 (q_Mod_copiesX h t tZ f fZ) h4 2 [some (.ref 116), some (.int t), some (.int f), some (.int v3)] [] := by
    intro nn
    induction nn with
    | zero => intro v3 v3Z h4 v3E Ih4 Fh4 q5 q6 hm7; exact absurd hm7 (by (first | decide +kernel | omega))
    | succ nn ihL1 =>
      intro v3 v3Z h4 v3E Ih4 Fh4 q5 q6 hm7
      refine V_iload_n 3 d_Mod_copies_2 rfl rfl ?_
      refine V_sipush 144 d_Mod_copies_3 (by decide) ?_
      refine V_icmp_ge 31 v3E tc_144 d_Mod_copies_6 (by decide) (fun c8 => ?_) (fun c8 => ?_)
      ·
        exact V_vret rfl d_Mod_copies_31 ⟨rfl, ⟨Ih4, Fh4, (by rw [show (144 : Int) = v3Z by (first | decide +kernel | omega)]; assumption)⟩⟩
      ·
        refine V_aload_n 0 d_Mod_copies_9 rfl rfl ?_
        refine V_getR fa_Mod_7 sk_116 rfl d_Mod_copies_10 ?_
        refine V_iload_n 1 d_Mod_copies_13 rfl rfl ?_
        refine V_iload_n 3 d_Mod_copies_14 rfl rfl ?_
        refine V_iadd tE v3E (by (first | decide +kernel | omega)) d_Mod_copies_15 (fun z9 z9e z9E => ?_)
        refine V_aload_n 0 d_Mod_copies_16 rfl rfl ?_
        refine V_getR fa_Mod_7 sk_116 rfl d_Mod_copies_17 ?_
        refine V_iload_n 2 d_Mod_copies_20 rfl rfl ?_
        refine V_iload_n 3 d_Mod_copies_21 rfl rfl ?_
        refine V_iadd fE v3E (by (first | decide +kernel | omega)) d_Mod_copies_22 (fun z10 z10e z10E => ?_)
        refine N_iald sk_117 z10E (by (first | decide +kernel | omega)) d_Mod_copies_23 (fun z11 z11Z z11E z11e => ?_)
        refine N_iast sk_117 z9E (by (first | decide +kernel | omega)) d_Mod_copies_24 (fun h12 eh12 => ?_)
        have hI13 : Inv h12 := inv_st Ih4 eh12 (Or.inl rfl) z11E (stOk_of Ih4 (Or.inl rfl) z11E z11e (by (first | decide +kernel | omega)))
        have f14 : fr S_Mod_copiesX h h12 := fr_put Fh4 eh12 rfl
        obtain ⟨z15, z15E, z15e⟩ : ∃ y : Int32, y.toInt = v3Z + 1 ∧ y = v3 + Int32.ofInt 1 := ⟨_, ti_add v3E (by decide) (by (first | decide +kernel | omega)), rfl⟩
        refine V_iinc 3 [some (.ref 116), some (.int t), some (.int f), some (.int z15)] d_Mod_copies_25 rfl z15e.symm (by decide) rfl rfl ?_
        refine V_goto 2 d_Mod_copies_28 (by decide) ?_
        exact ihL1 z15 ((v3Z + 1)) h12 z15E hI13 f14 (by (first | decide +kernel | omega)) (mcl_s (by assumption) (by (first | decide +kernel | omega)) hy0 hy1 eh12 (by assumption)) (by (first | decide +kernel | omega))
  exact L1 (Int.toNat ((144 - 0 : Int) + 1)) 0 0 h tc_0 hI f0 (by (first | decide +kernel | omega)) mcl_0 (by (first | decide +kernel | omega))
def S_Rod_keepX : List (Nat × Option Nat) := [(34, some 3), (34, some 4), (35, none), (36, none), (37, none), (38, none), (39, none), (40, none), (41, some 4), (42, none), (43, none), (44, none), (45, none), (46, some 4), (47, none), (48, none), (49, none), (50, none), (51, some 3), (51, some 4), (52, none), (53, none), (54, none), (55, none), (56, none), (57, none), (58, some 4), (59, none), (60, none), (61, none), (62, none), (63, some 4), (64, none), (65, none), (66, none), (67, none), (87, none)]
abbrev q_Rod_keepX (h : Hp) (k : Int32) (kZ : Int) : Option Value → Hp → Prop := pInt (fun r h' => Inv h' ∧ fr S_Rod_keepX h h' ∧ (kZ = 0 ∧ KP h h' 34 51 0 ∧ FQ (h.1 87 0) r ∨ kZ = 1 ∧ KP h h' 51 34 1 ∧ FQ (h.1 87 1) r ∨ (kZ < 0 ∨ 1 < kZ) ∧ h' = h ∧ r.toInt = -1))
set_option maxRecDepth 100000 in
theorem c_Rod_keepX (h : Hp) (hI : Inv h) (k : Int32) (kZ : Int) (kE : k.toInt = kZ) : Ct y_Rod_keep b_Rod_keep 3 (some .int) 3 102 [.ref 85, .int k] h (q_Rod_keepX h k kZ) := by
  refine ct_ow R_Rod [some (.ref 85), some (.int k), none] rfl (by decide) rfl (Nat.le_of_ble_eq_true rfl) ?_
  have f0 : fr S_Rod_keepX h h := fr_rf
  refine V_iload_n 1 d_Rod_keep_0 rfl rfl ?_
  refine V_if_lt 9 kE d_Rod_keep_1 (by decide) (fun c1 => ?_) (fun c1 => ?_)
  ·
    refine V_iconst (-1) d_Rod_keep_9 (by decide) ?_
    exact V_iret rfl d_Rod_keep_10 ⟨(-1), rfl, ⟨hI, f0, (Or.inr (Or.inr ⟨by (first | decide +kernel | omega), rfl, tc_m1⟩))⟩⟩
  ·
    refine V_iload_n 1 d_Rod_keep_4 rfl rfl ?_
    refine V_iconst 2 d_Rod_keep_5 (by decide) ?_
    refine V_icmp_lt 11 kE tc_2 d_Rod_keep_6 (by decide) (fun c2 => ?_) (fun c2 => ?_)
    ·
      refine V_aload_n 0 d_Rod_keep_11 rfl rfl ?_
      refine V_getR fa_Rod_23 sk_85 rfl d_Rod_keep_12 ?_
      refine V_iload_n 1 d_Rod_keep_15 rfl rfl ?_
      refine N_zald sk_87 kE (by (first | decide +kernel | omega)) d_Rod_keep_16 (fun z3 z3Z z3E z3e => ?_)
      refine N_callSI [.int z3] [] cs_Rod_147 d_Rod_keep_17 rfl (Nat.le_of_ble_eq_true rfl) (by decide) (by decide) (c_Rod_oneIf h z3 z3Z z3E) (fun z4 h5 z4Z z4E p6 => ?_)
      obtain ⟨eh5, p6⟩ := p6
      subst eh5
      refine V_istore_n 2 [some (.ref 85), some (.int k), some (.int z4)] d_Rod_keep_20 rfl (by decide) rfl rfl ?_
      refine V_aload_n 0 d_Rod_keep_21 rfl rfl ?_
      refine V_getR fa_Rod_19 sk_85 rfl d_Rod_keep_22 ?_
      refine V_iload_n 1 d_Rod_keep_25 rfl rfl ?_
      rcases (by (first | decide +kernel | omega) : kZ = 0 ∨ kZ = 1) with c7 | c7
      ·
        refine V_aald (r := 34) sk_86 (by decide) kE (by (first | decide +kernel | omega)) (by rw [c7]; rfl) d_Rod_keep_26 ?_
        refine V_aload_n 0 d_Rod_keep_27 rfl rfl ?_
        refine V_getR fa_Rod_12 sk_85 rfl d_Rod_keep_28 ?_
        obtain ⟨z8, z8Z, z8E, z8e⟩ : ∃ (y : Int32) (Y : Int), y.toInt = Y ∧ y = h.1 0 3 := ⟨_, _, rfl, rfl⟩
        obtain ⟨z9, z9Z, z9E, z9e⟩ : ∃ (y : Int32) (Y : Int), y.toInt = Y ∧ y = h.1 0 4 := ⟨_, _, rfl, rfl⟩
        refine N_callVV [.ref 0] [] cv_Rod_84 sk_34 rfl d_Rod_keep_31 rfl (Nat.le_of_ble_eq_true rfl) (by decide) (by decide) (c_County_copyX_2_0 h hI z8 z8Z z8E z8e.symm z9 z9Z z9E z9e.symm) (fun h11 p12 => ?_)
        obtain ⟨hI13, fh11, p12⟩ := p12
        have f14 : fr S_Rod_keepX h h11 := fr_call f0 fh11 rfl
        refine V_aload_n 0 d_Rod_keep_34 rfl rfl ?_
        refine V_getR fa_Rod_23 sk_85 rfl d_Rod_keep_35 ?_
        refine V_iload_n 1 d_Rod_keep_38 rfl rfl ?_
        refine V_iconst 1 d_Rod_keep_39 (by decide) ?_
        refine N_zast sk_87 kE (by (first | decide +kernel | omega)) d_Rod_keep_40 (fun h15 eh15 => ?_)
        have hI16 : Inv h15 := inv_full hI13 eh15 rfl
        have f17 : fr S_Rod_keepX h h15 := fr_put f14 eh15 rfl
        refine V_iload_n 2 d_Rod_keep_41 rfl rfl ?_
        exact V_iret rfl d_Rod_keep_42 ⟨z4, rfl, ⟨hI16, f17, (Or.inl ⟨by (first | decide +kernel | omega), KP_of p12 fh11 rfl rfl (by decide) eh15 (by decide) (by (first | decide +kernel | omega)), FQ_of z3e (by (first | decide +kernel | omega)) z3E p6⟩)⟩⟩
      ·
        refine V_aald (r := 51) sk_86 (by decide) kE (by (first | decide +kernel | omega)) (by rw [c7]; rfl) d_Rod_keep_26 ?_
        refine V_aload_n 0 d_Rod_keep_27 rfl rfl ?_
        refine V_getR fa_Rod_12 sk_85 rfl d_Rod_keep_28 ?_
        obtain ⟨z18, z18Z, z18E, z18e⟩ : ∃ (y : Int32) (Y : Int), y.toInt = Y ∧ y = h.1 0 3 := ⟨_, _, rfl, rfl⟩
        obtain ⟨z19, z19Z, z19E, z19e⟩ : ∃ (y : Int32) (Y : Int), y.toInt = Y ∧ y = h.1 0 4 := ⟨_, _, rfl, rfl⟩
        refine N_callVV [.ref 0] [] cv_Rod_84 sk_51 rfl d_Rod_keep_31 rfl (Nat.le_of_ble_eq_true rfl) (by decide) (by decide) (c_County_copyX_3_0 h hI z18 z18Z z18E z18e.symm z19 z19Z z19E z19e.symm) (fun h21 p22 => ?_)
        obtain ⟨hI23, fh21, p22⟩ := p22
        have f24 : fr S_Rod_keepX h h21 := fr_call f0 fh21 rfl
        refine V_aload_n 0 d_Rod_keep_34 rfl rfl ?_
        refine V_getR fa_Rod_23 sk_85 rfl d_Rod_keep_35 ?_
        refine V_iload_n 1 d_Rod_keep_38 rfl rfl ?_
        refine V_iconst 1 d_Rod_keep_39 (by decide) ?_
        refine N_zast sk_87 kE (by (first | decide +kernel | omega)) d_Rod_keep_40 (fun h25 eh25 => ?_)
        have hI26 : Inv h25 := inv_full hI23 eh25 rfl
        have f27 : fr S_Rod_keepX h h25 := fr_put f24 eh25 rfl
        refine V_iload_n 2 d_Rod_keep_41 rfl rfl ?_
        exact V_iret rfl d_Rod_keep_42 ⟨z4, rfl, ⟨hI26, f27, (Or.inr (Or.inl ⟨by (first | decide +kernel | omega), KP_of p22 fh21 rfl rfl (by decide) eh25 (by decide) (by (first | decide +kernel | omega)), FQ_of z3e (by (first | decide +kernel | omega)) z3E p6⟩))⟩⟩
    ·
      refine V_iconst (-1) d_Rod_keep_9 (by decide) ?_
      exact V_iret rfl d_Rod_keep_10 ⟨(-1), rfl, ⟨hI, f0, (Or.inr (Or.inr ⟨by (first | decide +kernel | omega), rfl, tc_m1⟩))⟩⟩
def S_Mod_keepX : List (Nat × Option Nat) := [(117, none), (118, none)]
abbrev q_Mod_keepX (h : Hp) (k : Int32) (kZ : Int) : Option Value → Hp → Prop := pInt (fun r h' => Inv h' ∧ fr S_Mod_keepX h h' ∧ (kZ = 0 ∧ MKP h h' 144 0 ∧ FQ (h.1 118 0) r ∨ kZ = 1 ∧ MKP h h' 288 1 ∧ FQ (h.1 118 1) r ∨ (kZ < 0 ∨ 1 < kZ) ∧ h' = h ∧ r.toInt = -1))
set_option maxRecDepth 100000 in
theorem c_Mod_keepX (h : Hp) (hI : Inv h) (k : Int32) (kZ : Int) (kE : k.toInt = kZ) : Ct y_Mod_keep b_Mod_keep 3 (some .int) 1 25 [.ref 116, .int k] h (q_Mod_keepX h k kZ) := by
  refine ct_ow R_Mod [some (.ref 116), some (.int k), none] rfl (by decide) rfl (Nat.le_of_ble_eq_true rfl) ?_
  have f0 : fr S_Mod_keepX h h := fr_rf
  refine V_iload_n 1 d_Mod_keep_0 rfl rfl ?_
  refine V_i2l d_Mod_keep_1 (fun z1 z1e z1E => ?_)
  have z1F : z1.toInt = kZ := z1E.trans kE
  refine V_lconst 0 d_Mod_keep_2 (by decide) ?_
  refine V_lconst 1 d_Mod_keep_3 (by decide) ?_
  refine N_callSI [.long z1, .long 0, .long 1] [] cs_Mod_95 d_Mod_keep_4 rfl (Nat.le_of_ble_eq_true rfl) (by decide) (by decide) (c_Mod_in h z1 kZ z1F 0 0 tl_0 1 1 tl_1) (fun z2 h3 z2Z z2E p4 => ?_)
  obtain ⟨eh3, p4⟩ := p4
  subst eh3
  refine V_if_ne 12 z2E d_Mod_keep_7 (by decide) (fun c5 => ?_) (fun c5 => ?_)
  ·
    rcases (by (first | decide +kernel | omega) : kZ = 0 ∨ kZ = 1) with c6 | c6
    ·
      refine V_aload_n 0 d_Mod_keep_12 rfl rfl ?_
      refine V_getR fa_Mod_13 sk_116 rfl d_Mod_keep_13 ?_
      refine V_iload_n 1 d_Mod_keep_16 rfl rfl ?_
      refine N_zald sk_118 kE (by (first | decide +kernel | omega)) d_Mod_keep_17 (fun z7 z7Z z7E z7e => ?_)
      refine N_callSI [.int z7] [] cs_Mod_196 d_Mod_keep_18 rfl (Nat.le_of_ble_eq_true rfl) (by decide) (by decide) (c_Mod_flag h z7 z7Z z7E) (fun z8 h9 z8Z z8E p10 => ?_)
      obtain ⟨eh9, p10⟩ := p10
      subst eh9
      refine V_istore_n 2 [some (.ref 116), some (.int k), some (.int z8)] d_Mod_keep_21 rfl (by decide) rfl rfl ?_
      refine V_aload_n 0 d_Mod_keep_22 rfl rfl ?_
      refine V_getR fa_Mod_13 sk_116 rfl d_Mod_keep_23 ?_
      refine V_iload_n 1 d_Mod_keep_26 rfl rfl ?_
      refine V_iconst 1 d_Mod_keep_27 (by decide) ?_
      refine N_zast sk_118 kE (by (first | decide +kernel | omega)) d_Mod_keep_28 (fun h11 eh11 => ?_)
      have hI12 : Inv h11 := inv_full hI eh11 rfl
      have f13 : fr S_Mod_keepX h h11 := fr_put f0 eh11 rfl
      refine V_aload_n 0 d_Mod_keep_29 rfl rfl ?_
      refine V_sipush 144 d_Mod_keep_30 (by decide) ?_
      refine V_iload_n 1 d_Mod_keep_33 rfl rfl ?_
      refine V_iconst 1 d_Mod_keep_34 (by decide) ?_
      refine V_iadd kE tc_1 (by (first | decide +kernel | omega)) d_Mod_keep_35 (fun z14 z14e z14E => ?_)
      refine V_imul tc_144 z14E (by (first | decide +kernel | omega)) d_Mod_keep_36 (fun z15 z15e z15E => ?_)
      refine V_iconst 0 d_Mod_keep_37 (by decide) ?_
      refine N_callVV [.int z15, .int 0] [] cv_Mod_317 sk_116 rfl d_Mod_keep_38 rfl (Nat.le_of_ble_eq_true rfl) (by decide) (by decide) (c_Mod_copiesX h11 hI12 z15 ((144 * (kZ + 1))) z15E 0 0 tc_0 (by (first | decide +kernel | omega)) (by (first | decide +kernel | omega))) (fun h17 p18 => ?_)
      obtain ⟨hI19, fh17, p18⟩ := p18
      have f20 : fr S_Mod_keepX h h17 := fr_call f13 fh17 rfl
      refine V_iload_n 2 d_Mod_keep_41 rfl rfl ?_
      exact V_iret rfl d_Mod_keep_42 ⟨z8, rfl, ⟨hI19, f20, (Or.inl ⟨by (first | decide +kernel | omega), MKP_of eh11 (by decide) (by (first | decide +kernel | omega)) p18 (by (first | decide +kernel | omega)) fh17 rfl, FQ_of z7e (by (first | decide +kernel | omega)) z7E p10⟩)⟩⟩
    ·
      refine V_aload_n 0 d_Mod_keep_12 rfl rfl ?_
      refine V_getR fa_Mod_13 sk_116 rfl d_Mod_keep_13 ?_
      refine V_iload_n 1 d_Mod_keep_16 rfl rfl ?_
      refine N_zald sk_118 kE (by (first | decide +kernel | omega)) d_Mod_keep_17 (fun z21 z21Z z21E z21e => ?_)
      refine N_callSI [.int z21] [] cs_Mod_196 d_Mod_keep_18 rfl (Nat.le_of_ble_eq_true rfl) (by decide) (by decide) (c_Mod_flag h z21 z21Z z21E) (fun z22 h23 z22Z z22E p24 => ?_)
      obtain ⟨eh23, p24⟩ := p24
      subst eh23
      refine V_istore_n 2 [some (.ref 116), some (.int k), some (.int z22)] d_Mod_keep_21 rfl (by decide) rfl rfl ?_
      refine V_aload_n 0 d_Mod_keep_22 rfl rfl ?_
      refine V_getR fa_Mod_13 sk_116 rfl d_Mod_keep_23 ?_
      refine V_iload_n 1 d_Mod_keep_26 rfl rfl ?_
      refine V_iconst 1 d_Mod_keep_27 (by decide) ?_
      refine N_zast sk_118 kE (by (first | decide +kernel | omega)) d_Mod_keep_28 (fun h25 eh25 => ?_)
      have hI26 : Inv h25 := inv_full hI eh25 rfl
      have f27 : fr S_Mod_keepX h h25 := fr_put f0 eh25 rfl
      refine V_aload_n 0 d_Mod_keep_29 rfl rfl ?_
      refine V_sipush 144 d_Mod_keep_30 (by decide) ?_
      refine V_iload_n 1 d_Mod_keep_33 rfl rfl ?_
      refine V_iconst 1 d_Mod_keep_34 (by decide) ?_
      refine V_iadd kE tc_1 (by (first | decide +kernel | omega)) d_Mod_keep_35 (fun z28 z28e z28E => ?_)
      refine V_imul tc_144 z28E (by (first | decide +kernel | omega)) d_Mod_keep_36 (fun z29 z29e z29E => ?_)
      refine V_iconst 0 d_Mod_keep_37 (by decide) ?_
      refine N_callVV [.int z29, .int 0] [] cv_Mod_317 sk_116 rfl d_Mod_keep_38 rfl (Nat.le_of_ble_eq_true rfl) (by decide) (by decide) (c_Mod_copiesX h25 hI26 z29 ((144 * (kZ + 1))) z29E 0 0 tc_0 (by (first | decide +kernel | omega)) (by (first | decide +kernel | omega))) (fun h31 p32 => ?_)
      obtain ⟨hI33, fh31, p32⟩ := p32
      have f34 : fr S_Mod_keepX h h31 := fr_call f27 fh31 rfl
      refine V_iload_n 2 d_Mod_keep_41 rfl rfl ?_
      exact V_iret rfl d_Mod_keep_42 ⟨z22, rfl, ⟨hI33, f34, (Or.inr (Or.inl ⟨by (first | decide +kernel | omega), MKP_of eh25 (by decide) (by (first | decide +kernel | omega)) p32 (by (first | decide +kernel | omega)) fh31 rfl, FQ_of z21e (by (first | decide +kernel | omega)) z21E p24⟩))⟩⟩
  ·
    refine V_iconst (-1) d_Mod_keep_10 (by decide) ?_
    exact V_iret rfl d_Mod_keep_11 ⟨(-1), rfl, ⟨hI, f0, (Or.inr (Or.inr ⟨by (first | decide +kernel | omega), rfl, tc_m1⟩))⟩⟩
end
section
/-! nothing -/
end
section
/-! nothing -/
end
section
theorem x_D_111 {b : Int → Int} {T : Nat → Int → Int} {D : Nat → Int} {p : Int} (h : (x_line b T (D 86) p).1 = 0) (g : x_good D) : x_D b D p 111 = D 111 := by
  have hH : x_cH b T (D 86) p = 0 := (x_sq_0 h).1
  have hs := x_cH_s b T (D 86) p
  have hb := x_ln_b b (x_fr b p) (x_en b p)
  have hl : x_li b p = 0 ∨ x_li b p = 1 ∨ x_li b p = 2 ∨ x_li b p = 3 ∨ x_li b p = 4 ∨ x_li b p = 5 ∨ x_li b p = 6 ∨ x_li b p = 7 ∨ x_li b p = 8 ∨ x_li b p = 9 := by
    have e : x_li b p = x_ln b (x_fr b p) (x_en b p) := rfl
    have h2 : x_li b p ≠ -1 := by
      rcases hs with q | q | q | q | q | q
      · exact absurd (q.2.symm.trans hH) (by decide)
      · exact absurd (q.2.2.symm.trans hH) (by decide)
      · exact absurd (q.2.2.symm.trans hH) (by decide)
      · exact q.2.1
      · omega
      · exact q.2.1
    omega
  rcases hl with hl | hl | hl | hl | hl | hl | hl | hl | hl | hl
  · rw [x_line_0 rfl hH hl] at h
    rw [x_D_0 D rfl hl]
    rw [x_up_n (i := 111) (by decide), x_up_n (i := 111) (by decide)]
  · rw [x_line_1 rfl hH hl] at h
    rw [x_D_1 D rfl hl]
    unfold x_l1 at h
    have h1 := x_sq_0 h
    have a1 := x_cN_s b (x_en b p) 0 15
    exact x_up_n (by (first | decide +kernel | omega))
  · rw [x_line_2 rfl hH hl] at h
    rw [x_D_2 D rfl hl]
    unfold x_l2 at h
    have h1 := x_sq_0 h
    have a1 := x_cN_s b (x_en b p) 0 15
    exact x_up_n (by (first | decide +kernel | omega))
  · rw [x_line_3 rfl hH hl] at h
    rw [x_D_3 D rfl hl]
    unfold x_l3 at h
    have h1 := x_sq_0 h
    have a1 := x_cN_s b (x_en b p) 0 15
    exact x_up_n (by (first | decide +kernel | omega))
  · rw [x_line_4 rfl hH hl] at h
    rw [x_D_4 D rfl hl]
    unfold x_l4 at h
    have h1 := x_sq_0 h
    have a1 := x_cN_s b (x_en b p) 0 15
    exact x_up_n (by (first | decide +kernel | omega))
  · rw [x_line_5 rfl hH hl] at h
    rw [x_D_5 D rfl hl]
    unfold x_l5 at h
    have h1 := x_sq_0 h
    have a1 := x_cN_s b (x_en b p) 0 3
    exact x_up_n (by (first | decide +kernel | omega))
  · rw [x_line_6 rfl hH hl] at h
    rw [x_D_6 D rfl hl]
    exact x_up_n (by decide)
  · rw [x_line_7 rfl hH hl] at h
    rw [x_D_7 D rfl hl]
    exact x_up_n (by decide)
  · rw [x_line_8 rfl hH hl] at h
    rw [x_D_8 D rfl hl]
    rw [x_up_n (i := 111) (by decide), x_up_n (i := 111) (by decide)]
  · rw [x_line_9 rfl hH hl] at h
    rw [x_D_9 D rfl hl]
    have hm : D 86 < 8 := by
      rcases hs with q | q | q | q | q | q
      · exact absurd (q.2.symm.trans hH) (by decide)
      · exact absurd (q.2.2.symm.trans hH) (by decide)
      · exact absurd (q.2.2.symm.trans hH) (by decide)
      · exact absurd (q.2.2.2.symm.trans hH) (by decide)
      · exact absurd (q.2.2.2.symm.trans hH) (by decide)
      · omega
    unfold x_good at g
    rw [x_up_n (i := 111) (by (first | decide +kernel | omega)), x_up_n (i := 111) (by (first | decide +kernel | omega)), x_up_n (i := 111) (by (first | decide +kernel | omega)), x_up_n (i := 111) (by (first | decide +kernel | omega))]
theorem x_111 {b : Int → Int} : ∀ k : Nat, x_ok b k → (x_st b k).2.1 111 = 0 := by
  intro k
  induction k with
  | zero => intro _; rfl
  | succ k ih => intro h; exact (x_D_111 (h k (by (first | decide +kernel | omega))).2 (x_good_k k (fun j hj => h j (by (first | decide +kernel | omega))))).trans (ih (fun j hj => h j (by (first | decide +kernel | omega))))
def TC (h : Hp) (D : Nat → Int) : Prop := (∀ k i d : Nat, dof (68 + k) i = some d → (h.1 k i).toInt = D d) ∧ ∀ i : Nat, i < 8 → (i : Int) < D 86 → (h.1 9 i).toInt = D (87 + 3 * i) ∧ (h.1 10 i).toInt = D (88 + 3 * i) ∧ (h.1 11 i).toInt = D (89 + 3 * i)
def TK (h h' : Hp) (e : Int) (D : Nat → Int) : Prop := e = 0 ∧ TC h' D ∧ h'.1 87 0 = 0 ∧ h'.1 87 1 = 0 ∨ e ≠ 0 ∧ ∀ k i : Nat, k ≤ 16 ∨ k = 87 → h'.1 k i = h.1 k i
theorem TC_of {h h1 : Hp} {T : Nat → Int → Int} {D : Nat → Int} (r : RC h T D) (c : cpy h h1 0 68) : TC h1 D := by
  refine ⟨fun k i d hd => ?_, fun i hi hc => ?_⟩
  · have g := c k i (dof_c hd).1
    rw [Nat.zero_add] at g
    rw [g]
    exact r.2.1 _ i d hd
  · have g9 := c 9 i (by unfold cpl; omega)
    have g10 := c 10 i (by unfold cpl; omega)
    have g11 := c 11 i (by unfold cpl; omega)
    rw [Nat.zero_add] at g9 g10 g11
    rw [g9, g10, g11]
    exact r.2.2 i hc
theorem TC_ne {h h1 : Hp} {D : Nat → Int} {k' i' : Nat} {x : Int32} (r : TC h D) (e : h1 = pI h k' i' x) (hk : 16 < k') : TC h1 D := by
  refine ⟨fun k i d hd => ?_, fun i hi hc => ?_⟩
  · have := cpl_k (dof_c hd).1
    rw [e, pI_at, if_neg (by (first | decide +kernel | omega))]
    exact r.1 k i d hd
  · rw [e, pI_at, if_neg (by (first | decide +kernel | omega)), pI_at, if_neg (by (first | decide +kernel | omega)), pI_at, if_neg (by (first | decide +kernel | omega))]
    exact r.2 i hi hc
def SC (h h' : Hp) : Prop := ∀ k i : Nat, k ≤ 16 ∨ k = 87 → h'.1 k i = h.1 k i
theorem SC_rf {h : Hp} : SC h h := fun _ _ _ => rfl
theorem SC_fr {S : List (Nat × Option Nat)} {h h1 h2 : Hp} (r : SC h h1) (f : fr S h1 h2) (c1 : ckS S 0 16 = true) (c2 : ckS S 87 87 = true) : SC h h2 := fun k i hk => by
  have : inS S k i = false := by
    rcases hk with hk | hk
    · exact ckS_no c1 (by (first | decide +kernel | omega)) hk
    · exact ckS_no c2 (by (first | decide +kernel | omega)) (by (first | decide +kernel | omega))
  rw [f.1 k i this]
  exact r k i hk
theorem SC_ne {h h1 h2 : Hp} {k' i' : Nat} {x : Int32} (r : SC h h1) (e : h2 = pI h1 k' i' x) (hk : 16 < k' ∧ k' ≠ 87) : SC h h2 := fun k i h3 => by
  rw [e, pI_at, if_neg (by (first | decide +kernel | omega))]
  exact r k i h3
theorem JA_new {h : Hp} {D : Nat → Int} (c : TC h D) (m : MC h D) (h111 : D 111 = 0) (k0 : h.1 87 0 = 0) (k1 : h.1 87 1 = 0) (l0 : h.1 118 0 = 0) (l1 : h.1 118 1 = 0) : JA h := by
  obtain ⟨m1, m2, m3, m4, m5⟩ := m
  refine ⟨⟨fun k i d hd ha => ?_, fun i hi hc => ?_, fun i hi hc => ?_⟩, ⟨by rw [k0, l0], by rw [k1, l1]⟩, fun q => absurd k0 q, fun q => absurd k1 q⟩
  · have q := dof_c hd
    rw [Nat.zero_add]
    refine Int32.toInt_inj.mp ?_
    rw [c.1 k i d hd]
    by_cases w : d < 144
    · rw [mK_lt w, mJ_lt w, Nat.zero_add]
      exact (m1 d w).symm
    · rw [mK_ge w, mJ_ge w]
      rcases (by (first | decide +kernel | omega) : d = 144 ∨ d = 145 ∨ d = 146 ∨ d = 147) with rfl | rfl | rfl | rfl
      · exact m2.symm
      · exact m3.symm
      · exact m4.symm
      · exact m5.symm
  · rw [Nat.zero_add, c.1 7 4 86 rfl] at hc
    obtain ⟨a1, a2, a3⟩ := c.2 i hi hc
    rw [Nat.zero_add, Nat.zero_add, Nat.zero_add, Nat.zero_add, Nat.zero_add, Nat.zero_add]
    exact ⟨Int32.toInt_inj.mp (a1.trans (m1 _ (by (first | decide +kernel | omega))).symm), Int32.toInt_inj.mp (a2.trans (m1 _ (by (first | decide +kernel | omega))).symm), Int32.toInt_inj.mp (a3.trans (m1 _ (by (first | decide +kernel | omega))).symm)⟩
  · rw [Nat.zero_add, c.1 12 4 111 rfl, h111] at hc
    omega
theorem TC_fr {S : List (Nat × Option Nat)} {h h1 : Hp} {D : Nat → Int} (r : TC h D) (f : fr S h h1) (c : ckS S 0 16 = true) : TC h1 D := by
  refine ⟨fun k i d hd => ?_, fun i hi hc => ?_⟩
  · rw [f.1 k i (ckS_no c (by (first | decide +kernel | omega)) (cpl_k (dof_c hd).1))]
    exact r.1 k i d hd
  · rw [f.1 9 i (ckS_no c (by (first | decide +kernel | omega)) (by (first | decide +kernel | omega))), f.1 10 i (ckS_no c (by (first | decide +kernel | omega)) (by (first | decide +kernel | omega))), f.1 11 i (ckS_no c (by (first | decide +kernel | omega)) (by (first | decide +kernel | omega)))]
    exact r.2 i hi hc
theorem JA_text {S1 S2 : List (Nat × Option Nat)} {h h1 h2 : Hp} {b : Int → Int} {s e1 e2 : Int} {r1 r2 : Int32} {n1 n2 : Nat} (r : JA h) (f1 : fr S1 h h1) (f2 : fr S2 h1 h2) (X1 : x_tx b s r1 e1 n1) (X2 : x_tx b s r2 e2 n2) (t : TK h h1 e1 (x_st b n1).2.1) (m : MK h1 h2 e2 (x_st b n2).2.1) (s1 : ckS S1 34 67 = true) (s2 : ckS S1 116 118 = true) (s3 : ckS S2 0 115 = true) : JA h2 := by
  obtain ⟨hn, hr, hu⟩ := x_tx_un X1 X2
  subst hn
  subst hu
  have c6 : ∀ k i : Nat, k ≤ 115 → h2.1 k i = h1.1 k i := fun k i hk => f2.1 _ _ (ckS_no s3 (by (first | decide +kernel | omega)) hk)
  rcases t with ⟨t0, t1, t2, t3⟩ | ⟨t0, t1⟩
  · rcases m with ⟨m0, m1, m2, m3⟩ | ⟨m0, m1⟩
    · exact JA_new (TC_fr t1 f2 (by
        refine List.all_eq_true.mpr (fun q hq => ?_)
        have := of_decide_eq_true (List.all_eq_true.mp s3 q hq)
        exact decide_eq_true (by (first | decide +kernel | omega)))) m1 (x_111 n1 X1.1.1) (by rw [c6 _ _ (by (first | decide +kernel | omega))]; exact t2) (by rw [c6 _ _ (by (first | decide +kernel | omega))]; exact t3) m2 m3
    · exact absurd t0 m0
  · rcases m with ⟨m0, m1, m2, m3⟩ | ⟨m0, m1⟩
    · exact absurd m0 t0
    · have mm : ∀ k i : Nat, 116 ≤ k → k ≤ 118 → h1.1 k i = h.1 k i := fun k i p q => f1.1 _ _ (ckS_no s2 p q)
      refine JA_at (fun k i hk => ?_) r
      rcases hk with hk | hk | hk | hk | hk | hk
      · have := cpl_k hk.1
        rw [c6 _ _ (by (first | decide +kernel | omega))]
        exact t1 k i (Or.inl this)
      · rw [c6 _ _ (by (first | decide +kernel | omega))]
        exact f1.1 _ _ (ckS_no s1 hk.1 hk.2)
      · rw [hk, c6 _ _ (by (first | decide +kernel | omega))]
        exact t1 87 i (Or.inr rfl)
      · rw [m1 k i (Or.inr (Or.inl hk)), mm _ _ (by (first | decide +kernel | omega)) (by (first | decide +kernel | omega))]
      · rw [m1 k i (Or.inl hk.1), mm _ _ (by (first | decide +kernel | omega)) (by (first | decide +kernel | omega))]
      · rw [m1 k i (Or.inr (Or.inr hk)), mm _ _ (by (first | decide +kernel | omega)) (by (first | decide +kernel | omega))]
end
section
def ru (a : Int) (r w g x y n m t : Int32) : Prop := a = 0 ∧ r = w ∨ a = 1 ∧ r = g ∨ a = 2 ∧ r = x ∨ a = 3 ∧ r = y ∨ a = 4 ∧ r = n ∨ a = 5 ∧ r = m ∨ a = 6 ∧ r = t ∨ (a < 0 ∨ 6 < a) ∧ r.toInt = -1
theorem ru_0 {a : Int} {r w g x y n m t : Int32} (h : a = 0) (e : r = w) : ru a r w g x y n m t := Or.inl ⟨h, e⟩
theorem ru_1 {a : Int} {r w g x y n m t : Int32} (h : a = 1) (e : r = g) : ru a r w g x y n m t := Or.inr (Or.inl ⟨h, e⟩)
theorem ru_2 {a : Int} {r w g x y n m t : Int32} (h : a = 2) (e : r = x) : ru a r w g x y n m t := Or.inr (Or.inr (Or.inl ⟨h, e⟩))
theorem ru_3 {a : Int} {r w g x y n m t : Int32} (h : a = 3) (e : r = y) : ru a r w g x y n m t := Or.inr (Or.inr (Or.inr (Or.inl ⟨h, e⟩)))
theorem ru_4 {a : Int} {r w g x y n m t : Int32} (h : a = 4) (e : r = n) : ru a r w g x y n m t := Or.inr (Or.inr (Or.inr (Or.inr (Or.inl ⟨h, e⟩))))
theorem ru_5 {a : Int} {r w g x y n m t : Int32} (h : a = 5) (e : r = m) : ru a r w g x y n m t := Or.inr (Or.inr (Or.inr (Or.inr (Or.inr (Or.inl ⟨h, e⟩)))))
theorem ru_6 {a : Int} {r w g x y n m t : Int32} (h : a = 6) (e : r = t) : ru a r w g x y n m t := Or.inr (Or.inr (Or.inr (Or.inr (Or.inr (Or.inr (Or.inl ⟨h, e⟩))))))
theorem ru_n {a : Int} {r w g x y n m t : Int32} (h : a < 0 ∨ 6 < a) (e : r.toInt = -1) : ru a r w g x y n m t := Or.inr (Or.inr (Or.inr (Or.inr (Or.inr (Or.inr (Or.inr (⟨h, e⟩)))))))
def S_Rod_textY : List (Nat × Option Nat) := [(89, some 2), (89, some 3), (89, some 4), (89, some 5), (88, some 5), (88, some 6), (88, some 4), (91, none), (92, none), (69, none), (70, none), (71, none), (72, none), (73, none), (74, none), (76, none), (68, some 3), (68, some 4), (75, some 4), (77, none), (78, none), (79, none), (80, some 4), (0, some 3), (0, some 4), (1, none), (2, none), (3, none), (4, none), (5, none), (6, none), (7, some 4), (8, none), (9, none), (10, none), (11, none), (12, some 4), (13, none), (14, none), (15, none), (16, none), (89, some 1), (87, none)]
abbrev q_Rod_textY (h : Hp) (b : Int → Int) (s : Int32) (sZ : Int) : Option Value → Hp → Prop := pInt (fun r h' => Inv h' ∧ fr S_Rod_textY h h' ∧ ∃ (v : Int32) (vZ : Int), v.toInt = vZ ∧ h'.1 89 1 = v ∧ ∃ (e : Int32) (eZ : Int), e.toInt = eZ ∧ h'.1 88 6 = e ∧ (vZ = 0 ∧ ∃ n : Nat, x_tx b sZ r eZ n ∧ TK h h' eZ (x_st b n).2.1))
set_option maxRecDepth 100000 in
theorem c_Rod_textY (h : Hp) (b : Int → Int) (hI : Inv h) (s : Int32) (sZ : Int) (sE : s.toInt = sZ) (sK : h.1 89 1 = s) (hy0 : TP h 90 sZ b) : Ct y_Rod_text b_Rod_text 3 (some .int) 9 192 [.ref 85] h (q_Rod_textY h b s sZ) := by
  refine ct_ow R_Rod [some (.ref 85), none, none] rfl (by decide) rfl (Nat.le_of_ble_eq_true rfl) ?_
  have f0 : fr S_Rod_textY h h := fr_rf
  have g1 : 0 ≤ sZ ∧ sZ ≤ 160 := inv_at hI sE sK.symm rfl
  refine V_aload_n 0 d_Rod_text_0 rfl rfl ?_
  refine V_getR fa_Rod_30 sk_85 rfl d_Rod_text_1 ?_
  refine N_callVI [] [] cv_Rod_77 sk_88 rfl d_Rod_text_4 rfl (Nat.le_of_ble_eq_true rfl) (by decide) (by decide) (c_Reader_readAllX h b hI s sZ sE sK (TP_fr f0 (fun _ => rfl) hy0)) (fun z2 h3 z2Z z2E p4 => ?_)
  obtain ⟨hI5, fh3, o7, o7Z, o7E, o7K, p4⟩ := p4
  have f6 : fr S_Rod_textY h h3 := fr_call f0 fh3 rfl
  have Q8 : SC h h3 := SC_fr SC_rf fh3 rfl rfl
  obtain ⟨n, hX, hY⟩ := p4
  refine V_istore_n 1 [some (.ref 85), some (.int z2), none] d_Rod_text_7 rfl (by decide) rfl rfl ?_
  refine V_aload_n 0 d_Rod_text_8 rfl rfl ?_
  refine V_getR fa_Rod_38 sk_85 rfl d_Rod_text_9 ?_
  refine V_iconst 0 d_Rod_text_12 (by decide) ?_
  refine N_putI fp_Rod_67 sk_89 rfl d_Rod_text_13 (fun h9 eh9 => ?_)
  have hI10 : Inv h9 := inv_put (lo := 0) (hi := 160) hI5 eh9 rfl tc_0 (by (first | decide +kernel | omega))
  have f11 : fr S_Rod_textY h h9 := fr_put f6 eh9 rfl
  have Q12 : SC h h9 := SC_ne Q8 eh9 (by decide)
  refine V_iload_n 1 d_Rod_text_16 rfl rfl ?_
  refine V_if_lt 54 z2E d_Rod_text_17 (by decide) (fun c13 => ?_) (fun c13 => ?_)
  ·
    obtain ⟨he, hr⟩ := hY.resolve_left (fun q => absurd q.2.1 (by (first | decide +kernel | omega)))
    refine V_iload_n 1 d_Rod_text_54 rfl rfl ?_
    exact V_iret rfl d_Rod_text_55 ⟨z2, rfl, ⟨hI10, f11, 0, 0, tc_0, (kn_put eh9), o7, o7Z, o7E, (kn_ne eh9 o7K (by decide)), ⟨by (first | decide +kernel | omega), n, hX, Or.inr ⟨he, Q12⟩⟩⟩⟩
  ·
    obtain ⟨he, hr, hR0⟩ := hY.resolve_right (fun q => absurd q.2 (by (first | decide +kernel | omega)))
    have hR := RC_ne eh9 (by decide) hR0
    refine V_aload_n 0 d_Rod_text_20 rfl rfl ?_
    refine V_getR fa_Rod_12 sk_85 rfl d_Rod_text_21 ?_
    refine V_aload_n 0 d_Rod_text_24 rfl rfl ?_
    refine V_getR fa_Rod_30 sk_85 rfl d_Rod_text_25 ?_
    refine V_getR fa_Rod_81 sk_88 rfl d_Rod_text_28 ?_
    obtain ⟨z14, z14Z, z14E, z14e⟩ : ∃ (y : Int32) (Y : Int), y.toInt = Y ∧ y = h9.1 68 3 := ⟨_, _, rfl, rfl⟩
    obtain ⟨z15, z15Z, z15E, z15e⟩ : ∃ (y : Int32) (Y : Int), y.toInt = Y ∧ y = h9.1 68 4 := ⟨_, _, rfl, rfl⟩
    refine N_callVV [.ref 68] [] cv_Rod_84 sk_0 rfl d_Rod_text_31 rfl (Nat.le_of_ble_eq_true rfl) (by decide) (by decide) (c_County_copyX_0_4 h9 hI10 z14 z14Z z14E z14e.symm z15 z15Z z15E z15e.symm) (fun h17 p18 => ?_)
    obtain ⟨hI19, fh17, p18⟩ := p18
    have f20 : fr S_Rod_textY h h17 := fr_call f11 fh17 rfl
    have Q21 : TC h17 (x_st b n).2.1 := TC_of hR p18
    refine V_iconst 0 d_Rod_text_34 (by decide) ?_
    refine V_istore_n 2 [some (.ref 85), some (.int z2), some (.int 0)] d_Rod_text_35 rfl (by decide) rfl rfl ?_
    refine V_iload_n 2 d_Rod_text_36 rfl rfl ?_
    refine V_iconst 2 d_Rod_text_37 (by decide) ?_
    refine V_icmp_ge 54 tc_0 tc_2 d_Rod_text_38 (by decide) (fun c22 => ?_) (fun c22 => ?_)
    ·
      exact absurd c22 (by decide)
    ·
      refine V_aload_n 0 d_Rod_text_41 rfl rfl ?_
      refine V_getR fa_Rod_23 sk_85 rfl d_Rod_text_42 ?_
      refine V_iload_n 2 d_Rod_text_45 rfl rfl ?_
      refine V_iconst 0 d_Rod_text_46 (by decide) ?_
      refine N_zast sk_87 tc_0 (by (first | decide +kernel | omega)) d_Rod_text_47 (fun h23 eh23 => ?_)
      have hI24 : Inv h23 := inv_full hI19 eh23 rfl
      have f25 : fr S_Rod_textY h h23 := fr_put f20 eh23 rfl
      have Q26 : TC h23 (x_st b n).2.1 := TC_ne Q21 eh23 (by decide)
      refine V_iinc (v := 1) 2 [some (.ref 85), some (.int z2), some (.int 1)] d_Rod_text_48 rfl (by decide) (by decide) rfl rfl ?_
      refine V_goto 36 d_Rod_text_51 (by decide) ?_
      refine V_iload_n 2 d_Rod_text_36 rfl rfl ?_
      refine V_iconst 2 d_Rod_text_37 (by decide) ?_
      refine V_icmp_ge 54 tc_1 tc_2 d_Rod_text_38 (by decide) (fun c28 => ?_) (fun c28 => ?_)
      ·
        exact absurd c28 (by decide)
      ·
        refine V_aload_n 0 d_Rod_text_41 rfl rfl ?_
        refine V_getR fa_Rod_23 sk_85 rfl d_Rod_text_42 ?_
        refine V_iload_n 2 d_Rod_text_45 rfl rfl ?_
        refine V_iconst 0 d_Rod_text_46 (by decide) ?_
        refine N_zast sk_87 tc_1 (by (first | decide +kernel | omega)) d_Rod_text_47 (fun h29 eh29 => ?_)
        have hI30 : Inv h29 := inv_full hI24 eh29 rfl
        have f31 : fr S_Rod_textY h h29 := fr_put f25 eh29 rfl
        have Q32 : TC h29 (x_st b n).2.1 := TC_ne Q26 eh29 (by decide)
        refine V_iinc (v := 2) 2 [some (.ref 85), some (.int z2), some (.int 2)] d_Rod_text_48 rfl (by decide) (by decide) rfl rfl ?_
        refine V_goto 36 d_Rod_text_51 (by decide) ?_
        refine V_iload_n 2 d_Rod_text_36 rfl rfl ?_
        refine V_iconst 2 d_Rod_text_37 (by decide) ?_
        refine V_icmp_ge 54 tc_2 tc_2 d_Rod_text_38 (by decide) (fun c34 => ?_) (fun c34 => ?_)
        ·
          refine V_iload_n 1 d_Rod_text_54 rfl rfl ?_
          exact V_iret rfl d_Rod_text_55 ⟨z2, rfl, ⟨hI30, f31, 0, 0, tc_0, (kn_ne eh29 (kn_ne eh23 (kn_call fh17 (kn_put eh9) rfl) (by decide)) (by decide)), o7, o7Z, o7E, (kn_ne eh29 (kn_ne eh23 (kn_call fh17 (kn_ne eh9 o7K (by decide)) rfl) (by decide)) (by decide)), ⟨by (first | decide +kernel | omega), n, hX, Or.inl ⟨he, Q32, ((kn_nei eh29 (kn_put eh23) (by decide)).trans (by decide)), ((kn_put eh29).trans (by decide))⟩⟩⟩⟩
        ·
          exact absurd c34 (by decide)
abbrev q_Rod_ruleX (h : Hp) (a : Int32) (aZ : Int) (w : Int32) (wZ : Int) (g : Int32) (gZ : Int) (x : Int32) (xZ : Int) (y : Int32) (yZ : Int) (n : Int32) (nZ : Int) (m : Int32) (mZ : Int) (t : Int32) (tZ : Int) : Option Value → Hp → Prop := pInt (fun r h' => h = h' ∧ (ru aZ r w g x y n m t))
set_option maxRecDepth 100000 in
theorem c_Rod_ruleX (h : Hp) (hI : Inv h) (a : Int32) (aZ : Int) (aE : a.toInt = aZ) (w : Int32) (wZ : Int) (wE : w.toInt = wZ) (wK : h.1 1 0 = w) (g : Int32) (gZ : Int) (gE : g.toInt = gZ) (gK : h.1 1 1 = g) (x : Int32) (xZ : Int) (xE : x.toInt = xZ) (xK : h.1 1 2 = x) (y : Int32) (yZ : Int) (yE : y.toInt = yZ) (yK : h.1 1 3 = y) (n : Int32) (nZ : Int) (nE : n.toInt = nZ) (nK : h.1 0 3 = n) (m : Int32) (mZ : Int) (mE : m.toInt = mZ) (mK : h.1 0 4 = m) (t : Int32) (tZ : Int) (tE : t.toInt = tZ) (tK : h.1 7 4 = t) : Ct y_Rod_rule b_Rod_rule 2 (some .int) 0 0 [.ref 85, .int a] h (q_Rod_ruleX h a aZ w wZ g gZ x xZ y yZ n nZ m mZ t tZ) := by
  refine ct_ow R_Rod [some (.ref 85), some (.int a)] rfl (by decide) rfl (Nat.le_of_ble_eq_true rfl) ?_
  have f0 : fr [] h h := fr_rf
  have g1 : 2 ≤ wZ ∧ wZ ≤ 4 := inv_at hI wE wK.symm rfl
  have g2 : 2 ≤ gZ ∧ gZ ≤ 4 := inv_at hI gE gK.symm rfl
  have g3 : 0 ≤ tZ ∧ tZ ≤ 8 := inv_at hI tE tK.symm rfl
  refine V_iload_n 1 d_Rod_rule_0 rfl rfl ?_
  rcases (by (first | decide +kernel | omega) : (aZ < 0 ∨ 6 < aZ) ∨ aZ = 0 ∨ aZ = 1 ∨ aZ = 2 ∨ aZ = 3 ∨ aZ = 4 ∨ aZ = 5 ∨ aZ = 6) with c4 | c4 | c4 | c4 | c4 | c4 | c4 | c4
  ·
    refine V_tabOut 115 aE d_Rod_rule_1 c4 (by decide) ?_
    refine V_iconst (-1) d_Rod_rule_115 (by decide) ?_
    exact V_iret rfl d_Rod_rule_116 ⟨(-1), rfl, ⟨rfl, (ru_n (by (first | decide +kernel | omega)) tc_m1)⟩⟩
  ·
    refine V_tabIn 44 aE d_Rod_rule_1 (by (first | decide +kernel | omega)) (by (first | decide +kernel | omega)) (by rw [c4]; rfl) (by decide) ?_
    refine V_aload_n 0 d_Rod_rule_44 rfl rfl ?_
    refine V_getR fa_Rod_12 sk_85 rfl d_Rod_rule_45 ?_
    refine V_getR fa_Rod_91 sk_0 rfl d_Rod_rule_48 ?_
    refine N_getK fa_Rod_95 sk_1 rfl d_Rod_rule_51 wK ?_
    exact V_iret rfl d_Rod_rule_54 ⟨w, rfl, ⟨rfl, (ru_0 (by (first | decide +kernel | omega)) rfl)⟩⟩
  ·
    refine V_tabIn 55 aE d_Rod_rule_1 (by (first | decide +kernel | omega)) (by (first | decide +kernel | omega)) (by rw [c4]; rfl) (by decide) ?_
    refine V_aload_n 0 d_Rod_rule_55 rfl rfl ?_
    refine V_getR fa_Rod_12 sk_85 rfl d_Rod_rule_56 ?_
    refine V_getR fa_Rod_91 sk_0 rfl d_Rod_rule_59 ?_
    refine N_getK fa_Rod_100 sk_1 rfl d_Rod_rule_62 gK ?_
    exact V_iret rfl d_Rod_rule_65 ⟨g, rfl, ⟨rfl, (ru_1 (by (first | decide +kernel | omega)) rfl)⟩⟩
  ·
    refine V_tabIn 66 aE d_Rod_rule_1 (by (first | decide +kernel | omega)) (by (first | decide +kernel | omega)) (by rw [c4]; rfl) (by decide) ?_
    refine V_aload_n 0 d_Rod_rule_66 rfl rfl ?_
    refine V_getR fa_Rod_12 sk_85 rfl d_Rod_rule_67 ?_
    refine V_getR fa_Rod_91 sk_0 rfl d_Rod_rule_70 ?_
    refine N_getK fa_Rod_103 sk_1 rfl d_Rod_rule_73 xK ?_
    exact V_iret rfl d_Rod_rule_76 ⟨x, rfl, ⟨rfl, (ru_2 (by (first | decide +kernel | omega)) rfl)⟩⟩
  ·
    refine V_tabIn 77 aE d_Rod_rule_1 (by (first | decide +kernel | omega)) (by (first | decide +kernel | omega)) (by rw [c4]; rfl) (by decide) ?_
    refine V_aload_n 0 d_Rod_rule_77 rfl rfl ?_
    refine V_getR fa_Rod_12 sk_85 rfl d_Rod_rule_78 ?_
    refine V_getR fa_Rod_91 sk_0 rfl d_Rod_rule_81 ?_
    refine N_getK fa_Rod_106 sk_1 rfl d_Rod_rule_84 yK ?_
    exact V_iret rfl d_Rod_rule_87 ⟨y, rfl, ⟨rfl, (ru_3 (by (first | decide +kernel | omega)) rfl)⟩⟩
  ·
    refine V_tabIn 88 aE d_Rod_rule_1 (by (first | decide +kernel | omega)) (by (first | decide +kernel | omega)) (by rw [c4]; rfl) (by decide) ?_
    refine V_aload_n 0 d_Rod_rule_88 rfl rfl ?_
    refine V_getR fa_Rod_12 sk_85 rfl d_Rod_rule_89 ?_
    refine N_getK fa_Rod_109 sk_0 rfl d_Rod_rule_92 nK ?_
    exact V_iret rfl d_Rod_rule_95 ⟨n, rfl, ⟨rfl, (ru_4 (by (first | decide +kernel | omega)) rfl)⟩⟩
  ·
    refine V_tabIn 96 aE d_Rod_rule_1 (by (first | decide +kernel | omega)) (by (first | decide +kernel | omega)) (by rw [c4]; rfl) (by decide) ?_
    refine V_aload_n 0 d_Rod_rule_96 rfl rfl ?_
    refine V_getR fa_Rod_12 sk_85 rfl d_Rod_rule_97 ?_
    refine N_getK fa_Rod_112 sk_0 rfl d_Rod_rule_100 mK ?_
    exact V_iret rfl d_Rod_rule_103 ⟨m, rfl, ⟨rfl, (ru_5 (by (first | decide +kernel | omega)) rfl)⟩⟩
  ·
    refine V_tabIn 104 aE d_Rod_rule_1 (by (first | decide +kernel | omega)) (by (first | decide +kernel | omega)) (by rw [c4]; rfl) (by decide) ?_
    refine V_aload_n 0 d_Rod_rule_104 rfl rfl ?_
    refine V_getR fa_Rod_12 sk_85 rfl d_Rod_rule_105 ?_
    refine V_getR fa_Rod_115 sk_0 rfl d_Rod_rule_108 ?_
    refine N_getK fa_Rod_119 sk_7 rfl d_Rod_rule_111 tK ?_
    exact V_iret rfl d_Rod_rule_114 ⟨t, rfl, ⟨rfl, (ru_6 (by (first | decide +kernel | omega)) rfl)⟩⟩
abbrev q_Mod_ruleX (h : Hp) (a : Int32) (aZ : Int) (w : Int32) (wZ : Int) (g : Int32) (gZ : Int) (x : Int32) (xZ : Int) (y : Int32) (yZ : Int) (n : Int32) (nZ : Int) (m : Int32) (mZ : Int) (t : Int32) (tZ : Int) : Option Value → Hp → Prop := pInt (fun r h' => h = h' ∧ (ru aZ r w g x y n m t))
set_option maxRecDepth 100000 in
theorem c_Mod_ruleX (h : Hp) (hI : Inv h) (a : Int32) (aZ : Int) (aE : a.toInt = aZ) (w : Int32) (wZ : Int) (wE : w.toInt = wZ) (wK : h.1 116 2 = w) (g : Int32) (gZ : Int) (gE : g.toInt = gZ) (gK : h.1 116 3 = g) (x : Int32) (xZ : Int) (xE : x.toInt = xZ) (xK : h.1 116 4 = x) (y : Int32) (yZ : Int) (yE : y.toInt = yZ) (yK : h.1 116 5 = y) (n : Int32) (nZ : Int) (nE : n.toInt = nZ) (nK : h.1 117 84 = n) (m : Int32) (mZ : Int) (mE : m.toInt = mZ) (mK : h.1 117 85 = m) (t : Int32) (tZ : Int) (tE : t.toInt = tZ) (tK : h.1 117 86 = t) : Ct y_Mod_rule b_Mod_rule 2 (some .int) 0 0 [.ref 116, .int a] h (q_Mod_ruleX h a aZ w wZ g gZ x xZ y yZ n nZ m mZ t tZ) := by
  refine ct_ow R_Mod [some (.ref 116), some (.int a)] rfl (by decide) rfl (Nat.le_of_ble_eq_true rfl) ?_
  have f0 : fr [] h h := fr_rf
  have g1 : 2 ≤ wZ ∧ wZ ≤ 4 := inv_at hI wE wK.symm rfl
  have g2 : 2 ≤ gZ ∧ gZ ≤ 4 := inv_at hI gE gK.symm rfl
  refine V_iload_n 1 d_Mod_rule_0 rfl rfl ?_
  rcases (by (first | decide +kernel | omega) : (aZ < 0 ∨ 6 < aZ) ∨ aZ = 0 ∨ aZ = 1 ∨ aZ = 2 ∨ aZ = 3 ∨ aZ = 4 ∨ aZ = 5 ∨ aZ = 6) with c3 | c3 | c3 | c3 | c3 | c3 | c3 | c3
  ·
    refine V_tabOut 88 aE d_Mod_rule_1 c3 (by decide) ?_
    refine V_iconst (-1) d_Mod_rule_88 (by decide) ?_
    exact V_iret rfl d_Mod_rule_89 ⟨(-1), rfl, ⟨rfl, (ru_n (by (first | decide +kernel | omega)) tc_m1)⟩⟩
  ·
    refine V_tabIn 44 aE d_Mod_rule_1 (by (first | decide +kernel | omega)) (by (first | decide +kernel | omega)) (by rw [c3]; rfl) (by decide) ?_
    refine V_aload_n 0 d_Mod_rule_44 rfl rfl ?_
    refine N_getK fa_Mod_81 sk_116 rfl d_Mod_rule_45 wK ?_
    exact V_iret rfl d_Mod_rule_48 ⟨w, rfl, ⟨rfl, (ru_0 (by (first | decide +kernel | omega)) rfl)⟩⟩
  ·
    refine V_tabIn 49 aE d_Mod_rule_1 (by (first | decide +kernel | omega)) (by (first | decide +kernel | omega)) (by rw [c3]; rfl) (by decide) ?_
    refine V_aload_n 0 d_Mod_rule_49 rfl rfl ?_
    refine N_getK fa_Mod_84 sk_116 rfl d_Mod_rule_50 gK ?_
    exact V_iret rfl d_Mod_rule_53 ⟨g, rfl, ⟨rfl, (ru_1 (by (first | decide +kernel | omega)) rfl)⟩⟩
  ·
    refine V_tabIn 54 aE d_Mod_rule_1 (by (first | decide +kernel | omega)) (by (first | decide +kernel | omega)) (by rw [c3]; rfl) (by decide) ?_
    refine V_aload_n 0 d_Mod_rule_54 rfl rfl ?_
    refine N_getK fa_Mod_87 sk_116 rfl d_Mod_rule_55 xK ?_
    exact V_iret rfl d_Mod_rule_58 ⟨x, rfl, ⟨rfl, (ru_2 (by (first | decide +kernel | omega)) rfl)⟩⟩
  ·
    refine V_tabIn 59 aE d_Mod_rule_1 (by (first | decide +kernel | omega)) (by (first | decide +kernel | omega)) (by rw [c3]; rfl) (by decide) ?_
    refine V_aload_n 0 d_Mod_rule_59 rfl rfl ?_
    refine N_getK fa_Mod_90 sk_116 rfl d_Mod_rule_60 yK ?_
    exact V_iret rfl d_Mod_rule_63 ⟨y, rfl, ⟨rfl, (ru_3 (by (first | decide +kernel | omega)) rfl)⟩⟩
  ·
    refine V_tabIn 64 aE d_Mod_rule_1 (by (first | decide +kernel | omega)) (by (first | decide +kernel | omega)) (by rw [c3]; rfl) (by decide) ?_
    refine V_aload_n 0 d_Mod_rule_64 rfl rfl ?_
    refine V_getR fa_Mod_7 sk_116 rfl d_Mod_rule_65 ?_
    refine V_bipush 84 d_Mod_rule_68 (by decide) ?_
    refine N_ialdK sk_117 tc_84 (by (first | decide +kernel | omega)) d_Mod_rule_70 nK ?_
    exact V_iret rfl d_Mod_rule_71 ⟨n, rfl, ⟨rfl, (ru_4 (by (first | decide +kernel | omega)) rfl)⟩⟩
  ·
    refine V_tabIn 72 aE d_Mod_rule_1 (by (first | decide +kernel | omega)) (by (first | decide +kernel | omega)) (by rw [c3]; rfl) (by decide) ?_
    refine V_aload_n 0 d_Mod_rule_72 rfl rfl ?_
    refine V_getR fa_Mod_7 sk_116 rfl d_Mod_rule_73 ?_
    refine V_bipush 85 d_Mod_rule_76 (by decide) ?_
    refine N_ialdK sk_117 tc_85 (by (first | decide +kernel | omega)) d_Mod_rule_78 mK ?_
    exact V_iret rfl d_Mod_rule_79 ⟨m, rfl, ⟨rfl, (ru_5 (by (first | decide +kernel | omega)) rfl)⟩⟩
  ·
    refine V_tabIn 80 aE d_Mod_rule_1 (by (first | decide +kernel | omega)) (by (first | decide +kernel | omega)) (by rw [c3]; rfl) (by decide) ?_
    refine V_aload_n 0 d_Mod_rule_80 rfl rfl ?_
    refine V_getR fa_Mod_7 sk_116 rfl d_Mod_rule_81 ?_
    refine V_bipush 86 d_Mod_rule_84 (by decide) ?_
    refine N_ialdK sk_117 tc_86 (by (first | decide +kernel | omega)) d_Mod_rule_86 tK ?_
    exact V_iret rfl d_Mod_rule_87 ⟨t, rfl, ⟨rfl, (ru_6 (by (first | decide +kernel | omega)) rfl)⟩⟩
end
section
theorem JA_row3 {h h1 h2 : Hp} {k : Nat} {c oZ : Int} {G : Prop} {V1 V2 : Int32 → Prop} {r1 r2 : Int32} (hI : Inv h) (r : JA h) (f1 : Er h h1 k c.toNat G V1 r1) (f2 : Er h1 h2 117 (oZ + c).toNat G V2 r2) (hk : k = 3 ∧ oZ = 16 ∨ k = 4 ∧ oZ = 32 ∨ k = 5 ∧ oZ = 48) (hc : G → 0 ≤ c ∧ c < (h.1 1 0).toInt * (h.1 1 1).toInt) (hV : ∀ x y : Int32, V1 x → V2 y → x = y) : JA h2 ∧ r1 = r2 := by
  have a : 2 ≤ (h.1 1 0).toInt ∧ (h.1 1 0).toInt ≤ 4 := hI 1 0
  have b : 2 ≤ (h.1 1 1).toInt ∧ (h.1 1 1).toInt ≤ 4 := hI 1 1
  have m := mul24 a b
  refine JA_row r f1 f2 Iff.rfl hV (fun g => ?_)
  have q := hc g
  have hlt : c < 16 := by (first | decide +kernel | omega)
  rcases hk with ⟨rfl, rfl⟩ | ⟨rfl, rfl⟩ | ⟨rfl, rfl⟩
  · have e := dof_row (k := 71) (i := c.toNat) (n := 16) (o := 16) (A := c) (by (first | decide +kernel | omega)) (by (first | decide +kernel | omega)) rfl
    rw [show (16 + c).toNat = 16 + c.toNat by (first | decide +kernel | omega)]
    exact ⟨e, by (first | decide +kernel | omega), by unfold aP; omega⟩
  · have e := dof_row (k := 72) (i := c.toNat) (n := 16) (o := 32) (A := c) (by (first | decide +kernel | omega)) (by (first | decide +kernel | omega)) rfl
    rw [show (32 + c).toNat = 32 + c.toNat by (first | decide +kernel | omega)]
    exact ⟨e, by (first | decide +kernel | omega), by unfold aP; omega⟩
  · have e := dof_row (k := 73) (i := c.toNat) (n := 16) (o := 48) (A := c) (by (first | decide +kernel | omega)) (by (first | decide +kernel | omega)) rfl
    rw [show (48 + c).toNat = 48 + c.toNat by (first | decide +kernel | omega)]
    exact ⟨e, by (first | decide +kernel | omega), by unfold aP; omega⟩
theorem V_flag {x y : Int32} {z : Int} (p : z ≠ 0 ∧ x.toInt = 1 ∨ z = 0 ∧ x.toInt = 0) (q : z ≠ 0 ∧ y.toInt = 1 ∨ z = 0 ∧ y.toInt = 0) : x = y := by
  rcases p with ⟨a1, b1⟩ | ⟨a1, b1⟩ <;> rcases q with ⟨a2, b2⟩ | ⟨a2, b2⟩
  · exact same_of b1 b2
  · exact absurd a2 a1
  · exact absurd a1 a2
  · exact same_of b1 b2
theorem JA_c86 {h : Hp} (r : JA h) : h.1 7 4 = h.1 117 86 := JA_cell r (k := 7) (i := 4) rfl (Or.inr (by decide)) (by decide)
theorem JA_c111 {h : Hp} (r : JA h) : h.1 12 4 = h.1 117 111 := JA_cell r (k := 12) (i := 4) rfl (Or.inr (by decide)) (by decide)
end
section
theorem x_D_w {b : Int → Int} {T : Nat → Int → Int} {D : Nat → Int} {p : Int} (h : (x_line b T (D 86) p).1 = 0) (g : x_good D) (w : ∀ i : Nat, i < 16 → 0 ≤ D i) (i : Nat) (hi : i < 16) : 0 ≤ x_D b D p i := by
  have hH : x_cH b T (D 86) p = 0 := (x_sq_0 h).1
  have hs := x_cH_s b T (D 86) p
  have hb := x_ln_b b (x_fr b p) (x_en b p)
  have wi := w i hi
  have hl : x_li b p = 0 ∨ x_li b p = 1 ∨ x_li b p = 2 ∨ x_li b p = 3 ∨ x_li b p = 4 ∨ x_li b p = 5 ∨ x_li b p = 6 ∨ x_li b p = 7 ∨ x_li b p = 8 ∨ x_li b p = 9 := by
    have e : x_li b p = x_ln b (x_fr b p) (x_en b p) := rfl
    have h2 : x_li b p ≠ -1 := by
      rcases hs with q | q | q | q | q | q
      · exact absurd (q.2.symm.trans hH) (by decide)
      · exact absurd (q.2.2.symm.trans hH) (by decide)
      · exact absurd (q.2.2.symm.trans hH) (by decide)
      · exact q.2.1
      · omega
      · exact q.2.1
    omega
  clear hs hb
  rcases hl with hl | hl | hl | hl | hl | hl | hl | hl | hl | hl
  · rw [x_line_0 rfl hH hl] at h
    rw [x_D_0 D rfl hl]
    rw [x_up_n (by (first | decide +kernel | omega)), x_up_n (by (first | decide +kernel | omega))]
    exact wi
  · rw [x_line_1 rfl hH hl] at h
    rw [x_D_1 D rfl hl]
    unfold x_l1 at h
    have h1 := x_sq_0 h
    have h2 := x_sq_0 h1.2
    have h3 := x_sq_0 h2.2
    have a1 := x_cN_s b (x_en b (x_en b p)) 1 9
    unfold x_up
    split
    · omega
    · exact wi
  · rw [x_line_2 rfl hH hl] at h
    rw [x_D_2 D rfl hl]
    unfold x_l2 at h
    have h1 := x_sq_0 h
    have a1 := x_cN_s b (x_en b p) 0 15
    rw [x_up_n (by (first | decide +kernel | omega))]
    exact wi
  · rw [x_line_3 rfl hH hl] at h
    rw [x_D_3 D rfl hl]
    unfold x_l3 at h
    have h1 := x_sq_0 h
    have a1 := x_cN_s b (x_en b p) 0 15
    rw [x_up_n (by (first | decide +kernel | omega))]
    exact wi
  · rw [x_line_4 rfl hH hl] at h
    rw [x_D_4 D rfl hl]
    unfold x_l4 at h
    have h1 := x_sq_0 h
    have a1 := x_cN_s b (x_en b p) 0 15
    rw [x_up_n (by (first | decide +kernel | omega))]
    exact wi
  · rw [x_line_5 rfl hH hl] at h
    rw [x_D_5 D rfl hl]
    unfold x_l5 at h
    have h1 := x_sq_0 h
    have a1 := x_cN_s b (x_en b p) 0 3
    rw [x_up_n (by (first | decide +kernel | omega))]
    exact wi
  · rw [x_line_6 rfl hH hl] at h
    rw [x_D_6 D rfl hl]
    rw [x_up_n (by (first | decide +kernel | omega))]
    exact wi
  · rw [x_line_7 rfl hH hl] at h
    rw [x_D_7 D rfl hl]
    rw [x_up_n (by (first | decide +kernel | omega))]
    exact wi
  · rw [x_line_8 rfl hH hl] at h
    rw [x_D_8 D rfl hl]
    rw [x_up_n (by (first | decide +kernel | omega)), x_up_n (by (first | decide +kernel | omega))]
    exact wi
  · rw [x_line_9 rfl hH hl] at h
    rw [x_D_9 D rfl hl]
    unfold x_good at g
    rw [x_up_n (by (first | decide +kernel | omega)), x_up_n (by (first | decide +kernel | omega)), x_up_n (by (first | decide +kernel | omega)), x_up_n (by (first | decide +kernel | omega))]
    exact wi
theorem x_W {b : Int → Int} : ∀ k : Nat, x_ok b k → ∀ i : Nat, i < 16 → 0 ≤ (x_st b k).2.1 i := by
  intro k
  induction k with
  | zero => intro _ i hi; show 0 ≤ x_D0 i; unfold x_D0; rw [if_neg (by (first | decide +kernel | omega)), if_neg (by (first | decide +kernel | omega)), if_neg (by (first | decide +kernel | omega)), if_neg (by (first | decide +kernel | omega)), if_neg (by (first | decide +kernel | omega)), if_neg (by (first | decide +kernel | omega))]; decide
  | succ k ih => intro h i hi; exact x_D_w (h k (by (first | decide +kernel | omega))).2 (x_good_k k (fun j hj => h j (by (first | decide +kernel | omega)))) (ih (fun j hj => h j (by (first | decide +kernel | omega)))) i hi
def CW (h : Hp) (k o : Nat) : Prop := (∀ i : Nat, i < 16 → h.1 (k + 2) i = h.1 117 (o + i) ∧ 0 ≤ (h.1 (k + 2) i).toInt) ∧ (∀ i : Nat, i < 16 → h.1 (k + 6) i = h.1 117 (o + (64 + i))) ∧ ∀ i : Nat, i < 4 → h.1 (k + 8) i = h.1 117 (o + (80 + i))
def JB (h : Hp) : Prop := CW h 0 0 ∧ (h.1 87 0 ≠ 0 → CW h 34 144) ∧ (h.1 87 1 ≠ 0 → CW h 51 288)
def jbC (k i : Nat) : Prop := (k = 2 ∨ k = 6) ∧ i < 16 ∨ k = 8 ∧ i < 4 ∨ (34 ≤ k ∧ k ≤ 67) ∨ k = 87 ∨ k = 117 ∧ (i < 16 ∨ 64 ≤ i ∧ i < 84 ∨ 144 ≤ i)
theorem CW_at {h h' : Hp} {k o : Nat} (e1 : ∀ k' i : Nat, (k' = 2 ∨ k' = 6) ∧ i < 16 ∨ k' = 8 ∧ i < 4 → h'.1 (k + k') i = h.1 (k + k') i) (e2 : ∀ i : Nat, i < 16 ∨ 64 ≤ i ∧ i < 84 → h'.1 117 (o + i) = h.1 117 (o + i)) (r : CW h k o) : CW h' k o :=
  ⟨fun i hi => by rw [e1 2 i (by (first | decide +kernel | omega)), e2 i (by (first | decide +kernel | omega))]; exact r.1 i hi, fun i hi => by rw [e1 6 i (by (first | decide +kernel | omega)), e2 (64 + i) (by (first | decide +kernel | omega))]; exact r.2.1 i hi, fun i hi => by rw [e1 8 i (by (first | decide +kernel | omega)), e2 (80 + i) (by (first | decide +kernel | omega))]; exact r.2.2 i hi⟩
theorem CW_cp {h h' : Hp} {k o k2 o2 : Nat} (e1 : ∀ k' i : Nat, cpl k' i → h'.1 (k + k') i = h.1 (k2 + k') i) (e2 : ∀ i : Nat, i < 144 → h'.1 117 (o + i) = h.1 117 (o2 + i)) (r : CW h k2 o2) : CW h' k o :=
  ⟨fun i hi => by rw [e1 2 i (by unfold cpl; omega), e2 i (by (first | decide +kernel | omega))]; exact r.1 i hi, fun i hi => by rw [e1 6 i (by unfold cpl; omega), e2 (64 + i) (by (first | decide +kernel | omega))]; exact r.2.1 i hi, fun i hi => by rw [e1 8 i (by unfold cpl; omega), e2 (80 + i) (by (first | decide +kernel | omega))]; exact r.2.2 i hi⟩
theorem JB_at {h h' : Hp} (e : ∀ k i : Nat, jbC k i → h'.1 k i = h.1 k i) (r : JB h) : JB h' := by
  obtain ⟨r1, r2, r3⟩ := r
  refine ⟨CW_at (fun k i w => by rw [Nat.zero_add]; exact e _ _ (by unfold jbC; omega)) (fun i w => by rw [Nat.zero_add]; exact e _ _ (by unfold jbC; omega)) r1, fun q => ?_, fun q => ?_⟩
  · rw [e 87 0 (by unfold jbC; omega)] at q
    exact CW_at (fun k i w => e _ _ (by unfold jbC; omega)) (fun i w => e _ _ (by unfold jbC; omega)) (r2 q)
  · rw [e 87 1 (by unfold jbC; omega)] at q
    exact CW_at (fun k i w => e _ _ (by unfold jbC; omega)) (fun i w => e _ _ (by unfold jbC; omega)) (r3 q)
def jbS (S : List (Nat × Option Nat)) : Bool := S.all (fun q => decide (q.1 ≠ 2 ∧ q.1 ≠ 6 ∧ q.1 ≠ 8 ∧ (q.1 < 34 ∨ 67 < q.1) ∧ q.1 ≠ 87 ∧ q.1 ≠ 117))
theorem jbS_no {S : List (Nat × Option Nat)} (hc : jbS S = true) {k i : Nat} (hk : jbC k i) : inS S k i = false := by
  unfold inS
  rw [List.any_eq_false]
  intro q hq e
  have h1 := of_decide_eq_true (List.all_eq_true.mp hc q hq)
  rw [Bool.and_eq_true] at e
  have e2 : q.1 = k := eq_of_beq e.1
  unfold jbC at hk
  omega
theorem JB_fr {S : List (Nat × Option Nat)} {h h' : Hp} (f : fr S h h') (hc : jbS S = true) (r : JB h) : JB h' := JB_at (fun _ _ hk => f.1 _ _ (jbS_no hc hk)) r
theorem JB_mix {S : List (Nat × Option Nat)} {h h' : Hp} (P : Nat → Bool) (f : fr S h h') (hc : jbS (S.filter (fun q => P q.1)) = true) (e : ∀ k i : Nat, jbC k i → P k = false → h'.1 k i = h.1 k i) (r : JB h) : JB h' := JB_at (fun k i hk => by
  cases hp : P k with
  | true => exact f.1 k i (inS_flt hp (jbS_no hc hk))
  | false => exact e k i hk hp) r
/-- the reference's row keeps water, bores, purses and the images -/
def nB (h h' : Hp) : Prop := ∀ i : Nat, (i < 16 ∨ 64 ≤ i ∧ i < 84 ∨ 144 ≤ i) → h'.1 117 i = h.1 117 i
theorem JB_nB {S : List (Nat × Option Nat)} {h h' : Hp} (f : fr S h h') (hc : jbS (S.filter (fun q => decide (q.1 ≠ 117))) = true) (g : nB h h') (r : JB h) : JB h' := JB_mix (fun k => decide (k ≠ 117)) f hc (fun k i hk hp => by
  have hp' : k = 117 := by
    have := of_decide_eq_false hp
    omega
  subst hp'
  refine g i ?_
  unfold jbC at hk
  omega) r
theorem nB_Er {h h' : Hp} {i : Nat} {G : Prop} {V : Int32 → Prop} {r : Int32} (f : Er h h' 117 i G V r) (hi : G → 16 ≤ i ∧ i < 64 ∨ 84 ≤ i ∧ i < 144) : nB h h' := fun j hj => by
  rcases f with ⟨g, x, _, e, _⟩ | ⟨_, e, _⟩
  · have := hi g
    rw [e, pI_at, if_neg (by (first | decide +kernel | omega))]
  · rw [e]
theorem nB_Ew {h h' : Hp} {i : Nat} {G : Prop} {n r0 r : Int32} (f : Ew h h' G (pI h 117 i n) r0 r) (hi : 84 ≤ i ∧ i < 144) : nB h h' := fun j hj => by
  rcases f with ⟨g, e, _⟩ | ⟨_, e, _⟩
  · rw [e, pI_at, if_neg (by (first | decide +kernel | omega))]
  · rw [e]
theorem nB_cut {h h' : Hp} {G : Prop} {n v r0 r : Int32} (f : Ew h h' G (pI (pI h 117 85 v) 117 84 n) r0 r) : nB h h' := fun j hj => by
  rcases f with ⟨g, e, _⟩ | ⟨_, e, _⟩
  · rw [e, pI_at, if_neg (by (first | decide +kernel | omega)), pI_at, if_neg (by (first | decide +kernel | omega))]
  · rw [e]
theorem nB_owe {h h' : Hp} {G : Prop} {a b v r : Int32} {t : Int} (f : G ∧ t < 8 ∧ (∃ u : Int32, u.toInt = t + 1 ∧ h' = pI (pI (pI (pI h 117 (87 + 3 * t).toNat a) 117 (87 + 3 * t + 1).toNat b) 117 (87 + 3 * t + 2).toNat v) 117 86 u ∧ r = u) ∨ G ∧ 8 ≤ t ∧ h' = h ∧ r.toInt = -3 ∨ ¬ G ∧ h' = h ∧ r.toInt = -1) (h0 : 0 ≤ t) : nB h h' := fun j hj => by
  rcases f with ⟨g, l, u, _, e, _⟩ | ⟨_, _, e, _⟩ | ⟨_, e, _⟩
  · rw [e, pI_at, if_neg (by (first | decide +kernel | omega)), pI_at, if_neg (by (first | decide +kernel | omega)), pI_at, if_neg (by (first | decide +kernel | omega)), pI_at, if_neg (by (first | decide +kernel | omega))]
  · rw [e]
  · rw [e]
theorem nB_see {h h' : Hp} {G : Prop} {a b v r : Int32} {t z : Int} (f : G ∧ t < 8 ∧ (∃ u x : Int32, u.toInt = t + 1 ∧ (z ≠ 0 ∧ x.toInt = 1 ∨ z = 0 ∧ x.toInt = 0) ∧ h' = pI (pI (pI (pI (pI h 117 (112 + 4 * t).toNat a) 117 (112 + 4 * t + 1).toNat b) 117 (112 + 4 * t + 2).toNat v) 117 (112 + 4 * t + 3).toNat x) 117 111 u ∧ r = u) ∨ G ∧ 8 ≤ t ∧ h' = h ∧ r.toInt = -3 ∨ ¬ G ∧ h' = h ∧ r.toInt = -1) (h0 : 0 ≤ t) : nB h h' := fun j hj => by
  rcases f with ⟨g, l, u, x, _, _, e, _⟩ | ⟨_, _, e, _⟩ | ⟨_, e, _⟩
  · rw [e, pI_at, if_neg (by (first | decide +kernel | omega)), pI_at, if_neg (by (first | decide +kernel | omega)), pI_at, if_neg (by (first | decide +kernel | omega)), pI_at, if_neg (by (first | decide +kernel | omega)), pI_at, if_neg (by (first | decide +kernel | omega))]
  · rw [e]
  · rw [e]
theorem JB_rest {h h2 : Hp} (r : JB h) (c : CW h2 0 0) (e : ∀ k i : Nat, (34 ≤ k ∧ k ≤ 67 ∨ k = 87 ∨ k = 117 ∧ 144 ≤ i) → h2.1 k i = h.1 k i) : JB h2 := by
  obtain ⟨r1, r4, r5⟩ := r
  refine ⟨c, fun q => ?_, fun q => ?_⟩
  · rw [e 87 0 (by (first | decide +kernel | omega))] at q
    exact CW_at (fun k' i w => e _ _ (by (first | decide +kernel | omega))) (fun i _ => e _ _ (by (first | decide +kernel | omega))) (r4 q)
  · rw [e 87 1 (by (first | decide +kernel | omega))] at q
    exact CW_at (fun k' i w => e _ _ (by (first | decide +kernel | omega))) (fun i _ => e _ _ (by (first | decide +kernel | omega))) (r5 q)
theorem JB_keep {S1 S2 : List (Nat × Option Nat)} {h h1 h2 : Hp} {k : Int} {r1 r2 : Int32} (r : JB h) (f1 : fr S1 h h1) (f2 : fr S2 h1 h2) (s1 : ckS S1 0 16 = true) (s2 : ckS S1 116 118 = true) (s3 : ckS S2 0 116 = true)
    (E1 : k = 0 ∧ KP h h1 34 51 0 ∧ FQ (h.1 87 0) r1 ∨ k = 1 ∧ KP h h1 51 34 1 ∧ FQ (h.1 87 1) r1 ∨ (k < 0 ∨ 1 < k) ∧ h1 = h ∧ r1.toInt = -1) (E2 : k = 0 ∧ MKP h1 h2 144 0 ∧ FQ (h1.1 118 0) r2 ∨ k = 1 ∧ MKP h1 h2 288 1 ∧ FQ (h1.1 118 1) r2 ∨ (k < 0 ∨ 1 < k) ∧ h2 = h1 ∧ r2.toInt = -1) : JB h2 := by
  have c0 : ∀ k i : Nat, k ≤ 16 → h2.1 k i = h.1 k i := fun k i hk => by rw [f2.1 _ _ (ckS_no s3 (by (first | decide +kernel | omega)) (by (first | decide +kernel | omega))), f1.1 _ _ (ckS_no s1 (by (first | decide +kernel | omega)) hk)]
  have c6 : ∀ k i : Nat, k ≤ 116 → h2.1 k i = h1.1 k i := fun k i hk => f2.1 _ _ (ckS_no s3 (by (first | decide +kernel | omega)) hk)
  have m1 : ∀ k i : Nat, 116 ≤ k → k ≤ 118 → h1.1 k i = h.1 k i := fun k i p q => f1.1 _ _ (ckS_no s2 p q)
  rcases E1 with ⟨p1, p2, p3⟩ | ⟨p1, p2, p3⟩ | ⟨p1, p2, p3⟩
  · rcases E2 with ⟨q1, q2, q3⟩ | ⟨q1, q2, q3⟩ | ⟨q1, q2, q3⟩
    · obtain ⟨a1, a2, a3, a4⟩ := p2
      obtain ⟨b1, b2, b3, b4⟩ := q2
      refine ⟨CW_at (fun k' i w => by rw [Nat.zero_add]; exact c0 _ _ (by (first | decide +kernel | omega))) (fun i w => by rw [Nat.zero_add, b2 _ (by (first | decide +kernel | omega)), m1 _ _ (by (first | decide +kernel | omega)) (by (first | decide +kernel | omega))]) r.1, fun _ => ?_, fun q => ?_⟩
      · exact CW_cp (k2 := 0) (o2 := 0) (fun k i c => by have := cpl_k c; rw [c6 _ _ (by (first | decide +kernel | omega))]; exact a1 k i c) (fun i hi => by rw [b1 i hi, m1 _ _ (by (first | decide +kernel | omega)) (by (first | decide +kernel | omega))]) r.1
      · rw [c6 _ _ (by (first | decide +kernel | omega)), a4 1 (by (first | decide +kernel | omega))] at q
        exact CW_at (fun k' i w => by rw [c6 _ _ (by (first | decide +kernel | omega))]; exact a2 _ i (by (first | decide +kernel | omega)) (by (first | decide +kernel | omega))) (fun i w => by rw [b2 _ (by (first | decide +kernel | omega)), m1 _ _ (by (first | decide +kernel | omega)) (by (first | decide +kernel | omega))]) (r.2.2 q)
    · omega
    · omega
  · rcases E2 with ⟨q1, q2, q3⟩ | ⟨q1, q2, q3⟩ | ⟨q1, q2, q3⟩
    · omega
    · obtain ⟨a1, a2, a3, a4⟩ := p2
      obtain ⟨b1, b2, b3, b4⟩ := q2
      refine ⟨CW_at (fun k' i w => by rw [Nat.zero_add]; exact c0 _ _ (by (first | decide +kernel | omega))) (fun i w => by rw [Nat.zero_add, b2 _ (by (first | decide +kernel | omega)), m1 _ _ (by (first | decide +kernel | omega)) (by (first | decide +kernel | omega))]) r.1, fun q => ?_, fun _ => ?_⟩
      · rw [c6 _ _ (by (first | decide +kernel | omega)), a4 0 (by (first | decide +kernel | omega))] at q
        exact CW_at (fun k' i w => by rw [c6 _ _ (by (first | decide +kernel | omega))]; exact a2 _ i (by (first | decide +kernel | omega)) (by (first | decide +kernel | omega))) (fun i w => by rw [b2 _ (by (first | decide +kernel | omega)), m1 _ _ (by (first | decide +kernel | omega)) (by (first | decide +kernel | omega))]) (r.2.1 q)
      · exact CW_cp (k2 := 0) (o2 := 0) (fun k i c => by have := cpl_k c; rw [c6 _ _ (by (first | decide +kernel | omega))]; exact a1 k i c) (fun i hi => by rw [b1 i hi, m1 _ _ (by (first | decide +kernel | omega)) (by (first | decide +kernel | omega))]) r.1
    · omega
  · rcases E2 with ⟨q1, q2, q3⟩ | ⟨q1, q2, q3⟩ | ⟨q1, q2, q3⟩
    · omega
    · omega
    · rw [q2, p2]; exact r
theorem JB_back1 {S1 S2 : List (Nat × Option Nat)} {h h1 h2 : Hp} {a o : Nat} {T : Int} (r : JB h) (c : CW h a o) (f1 : fr S1 h h1) (f2 : fr S2 h1 h2) (k1 : cpy h h1 0 a) (k2 : mcl h1 h2 0 T 144) (hT : T = (o : Int)) (s1 : ckS S1 34 67 = true) (s2 : ckS S1 87 118 = true) (s3 : ckS S2 0 116 = true) : JB h2 := by
  subst hT
  have m1 : ∀ k i : Nat, 87 ≤ k → k ≤ 118 → h1.1 k i = h.1 k i := fun k i p q => f1.1 _ _ (ckS_no s2 p q)
  have c6 : ∀ k i : Nat, k ≤ 116 → h2.1 k i = h1.1 k i := fun k i hk => f2.1 _ _ (ckS_no s3 (by (first | decide +kernel | omega)) hk)
  refine JB_rest r (CW_cp (k2 := a) (o2 := o) (fun k i c => by have := cpl_k c; rw [c6 _ _ (by (first | decide +kernel | omega))]; exact k1 k i c) (fun i hi => ?_) c) (fun k i w => ?_)
  · have g := k2.1 i (by (first | decide +kernel | omega))
    rw [show ((o : Int)).toNat = o from rfl, show ((0 : Int)).toNat = 0 from rfl] at g
    rw [g, m1 _ _ (by (first | decide +kernel | omega)) (by (first | decide +kernel | omega))]
  · rcases w with w | rfl | ⟨rfl, w⟩
    · rw [c6 _ _ (by (first | decide +kernel | omega)), f1.1 _ _ (ckS_no s1 (by (first | decide +kernel | omega)) (by (first | decide +kernel | omega)))]
    · rw [c6 _ _ (by (first | decide +kernel | omega)), m1 _ _ (by (first | decide +kernel | omega)) (by (first | decide +kernel | omega))]
    · rw [k2.2 _ (by rw [show ((0 : Int)).toNat = 0 from rfl]; omega), m1 _ _ (by (first | decide +kernel | omega)) (by (first | decide +kernel | omega))]
theorem JB_back {S1 S2 : List (Nat × Option Nat)} {h h1 h2 : Hp} {k : Int} (ra : JA h) (r : JB h) (f1 : fr S1 h h1) (f2 : fr S2 h1 h2) (s1 : ckS S1 34 67 = true) (s2 : ckS S1 87 118 = true) (s3 : ckS S2 0 116 = true)
    (E1 : k = 0 ∧ (h.1 87 0).toInt ≠ 0 ∧ cpy h h1 0 34 ∨ k = 1 ∧ (h.1 87 1).toInt ≠ 0 ∧ cpy h h1 0 51 ∨ (k = 0 ∧ (h.1 87 0).toInt = 0 ∨ k = 1 ∧ (h.1 87 1).toInt = 0 ∨ k < 0 ∨ 1 < k) ∧ h1 = h)
    (E2 : k = 0 ∧ (h1.1 118 0).toInt ≠ 0 ∧ mcl h1 h2 0 144 144 ∨ k = 1 ∧ (h1.1 118 1).toInt ≠ 0 ∧ mcl h1 h2 0 288 144 ∨ (k = 0 ∧ (h1.1 118 0).toInt = 0 ∨ k = 1 ∧ (h1.1 118 1).toInt = 0 ∨ k < 0 ∨ 1 < k) ∧ h2 = h1) : JB h2 := by
  have m1 : ∀ i : Nat, h1.1 118 i = h.1 118 i := fun i => f1.1 _ _ (ckS_no s2 (by (first | decide +kernel | omega)) (by (first | decide +kernel | omega)))
  rw [m1, m1, ← ra.2.1.1, ← ra.2.1.2] at E2
  rcases E1 with ⟨p1, p2, p3⟩ | ⟨p1, p2, p3⟩ | ⟨p1, p2⟩
  · rcases E2 with ⟨q1, q2, q3⟩ | ⟨q1, q2, q3⟩ | ⟨q1, q2⟩
    · exact JB_back1 r (r.2.1 (toInt_ne p2)) f1 f2 p3 q3 rfl s1 s2 s3
    · omega
    · omega
  · rcases E2 with ⟨q1, q2, q3⟩ | ⟨q1, q2, q3⟩ | ⟨q1, q2⟩
    · omega
    · exact JB_back1 r (r.2.2 (toInt_ne p2)) f1 f2 p3 q3 rfl s1 s2 s3
    · omega
  · rcases E2 with ⟨q1, q2, q3⟩ | ⟨q1, q2, q3⟩ | ⟨q1, q2⟩
    · omega
    · omega
    · rw [q2, p2]; exact r
theorem dof_2 {i : Nat} (hi : i < 16) : dof (68 + 2) i = some i := by unfold dof; rw [if_pos ⟨rfl, hi⟩]
theorem dof_6 {i : Nat} (hi : i < 16) : dof (68 + 6) i = some (64 + i) := by unfold dof; rw [if_neg (by (first | decide +kernel | omega)), if_neg (by (first | decide +kernel | omega)), if_neg (by (first | decide +kernel | omega)), if_neg (by (first | decide +kernel | omega)), if_pos ⟨rfl, hi⟩]
theorem dof_8 {i : Nat} (hi : i < 4) : dof (68 + 8) i = some (80 + i) := by unfold dof; rw [if_neg (by (first | decide +kernel | omega)), if_neg (by (first | decide +kernel | omega)), if_neg (by (first | decide +kernel | omega)), if_neg (by (first | decide +kernel | omega)), if_neg (by (first | decide +kernel | omega)), if_pos ⟨rfl, hi⟩]
theorem JB_new {h : Hp} {D : Nat → Int} (c : TC h D) (m : MC h D) (hw : ∀ i : Nat, i < 16 → 0 ≤ D i) (k0 : h.1 87 0 = 0) (k1 : h.1 87 1 = 0) : JB h := by
  refine ⟨⟨fun i hi => ?_, fun i hi => ?_, fun i hi => ?_⟩, fun q => absurd k0 q, fun q => absurd k1 q⟩
  · rw [Nat.zero_add, Nat.zero_add]
    exact ⟨Int32.toInt_inj.mp ((c.1 2 i i (dof_2 hi)).trans (m.1 i (by (first | decide +kernel | omega))).symm), by rw [c.1 2 i i (dof_2 hi)]; exact hw i hi⟩
  · rw [Nat.zero_add, Nat.zero_add]
    exact Int32.toInt_inj.mp ((c.1 6 i _ (dof_6 hi)).trans (m.1 _ (by (first | decide +kernel | omega))).symm)
  · rw [Nat.zero_add, Nat.zero_add]
    exact Int32.toInt_inj.mp ((c.1 8 i _ (dof_8 hi)).trans (m.1 _ (by (first | decide +kernel | omega))).symm)
theorem JB_text {S1 S2 : List (Nat × Option Nat)} {h h1 h2 : Hp} {b : Int → Int} {s e1 e2 : Int} {r1 r2 : Int32} {n1 n2 : Nat} (r : JB h) (f1 : fr S1 h h1) (f2 : fr S2 h1 h2) (X1 : x_tx b s r1 e1 n1) (X2 : x_tx b s r2 e2 n2) (t : TK h h1 e1 (x_st b n1).2.1) (m : MK h1 h2 e2 (x_st b n2).2.1) (s1 : ckS S1 34 67 = true) (s2 : ckS S1 116 118 = true) (s3 : ckS S2 0 115 = true) (s4 : ckS S2 0 16 = true) : JB h2 := by
  obtain ⟨hn, hr, hu⟩ := x_tx_un X1 X2
  subst hn
  subst hu
  have c6 : ∀ k i : Nat, k ≤ 115 → h2.1 k i = h1.1 k i := fun k i hk => f2.1 _ _ (ckS_no s3 (by (first | decide +kernel | omega)) hk)
  rcases t with ⟨t0, t1, t2, t3⟩ | ⟨t0, t1⟩
  · rcases m with ⟨m0, m1, m2, m3⟩ | ⟨m0, m1⟩
    · exact JB_new (TC_fr t1 f2 s4) m1 (x_W n1 X1.1.1) (by rw [c6 _ _ (by (first | decide +kernel | omega))]; exact t2) (by rw [c6 _ _ (by (first | decide +kernel | omega))]; exact t3)
    · exact absurd t0 m0
  · rcases m with ⟨m0, m1, m2, m3⟩ | ⟨m0, m1⟩
    · exact absurd m0 t0
    · refine JB_at (fun k i hk => ?_) r
      rcases hk with hk | hk | hk | hk | hk
      · rw [c6 _ _ (by (first | decide +kernel | omega))]; exact t1 k i (by (first | decide +kernel | omega))
      · rw [c6 _ _ (by (first | decide +kernel | omega))]; exact t1 k i (by (first | decide +kernel | omega))
      · rw [c6 _ _ (by (first | decide +kernel | omega))]; exact f1.1 _ _ (ckS_no s1 hk.1 hk.2)
      · rw [c6 _ _ (by (first | decide +kernel | omega))]; exact t1 k i (Or.inr hk)
      · rw [m1 k i (Or.inl hk.1)]; exact f1.1 _ _ (ckS_no s2 (by (first | decide +kernel | omega)) (by (first | decide +kernel | omega)))
def bM (b d : Int32) : Int32 := if b.toInt < d.toInt then d - b else 0
def bD (b d : Int32) : Int32 := if b.toInt < d.toInt then d else b
def bW (w b : Int32) : Prop := 0 < w.toInt ∧ w.toInt ≤ b.toInt
def bPd (p c b d : Int32) : Int32 := p - c * bM b d
/-- what is left, of a bore that brings a price (or not) -/
def bLf (p b w c q d x : Int32) : Prop := (¬ bW w b ∧ bW w (bD b d)) ∧ x = bPd p c b d + q ∨ ¬ (¬ bW w b ∧ bW w (bD b d)) ∧ x = bPd p c b d
theorem bLf_un {p b w c q d x y : Int32} (f : bLf p b w c q d x) (g : bLf p b w c q d y) : x = y := by
  rcases f with ⟨f1, f2⟩ | ⟨f1, f2⟩ <;> rcases g with ⟨g1, g2⟩ | ⟨g1, g2⟩
  · rw [f2, g2]
  · exact absurd f1 g1
  · exact absurd g1 f1
  · rw [f2, g2]
/-- refused, by the CLAIM l, the OWNER o, what is left x -/
def bRf (l o p b c d x : Int32) : Prop := l ≠ o ∨ (bPd p c b d).toInt < 0 ∨ 999 < x.toInt
/-- a bore: kp, ip the purse's cell, kb, ib the bore's; its answer r -/
def BE (h h' : Hp) (kp ip kb ib : Nat) (G : Prop) (l o p b w c q d r : Int32) : Prop := ¬ G ∧ h' = h ∧ r.toInt = -1 ∨ G ∧ (∃ x : Int32, bLf p b w c q d x ∧ (bRf l o p b c d x ∧ h' = h ∧ r.toInt = -2 ∨ ¬ bRf l o p b c d x ∧ h' = pI (pI h kp ip x) kb ib (bD b d) ∧ (bW w (bD b d) ∧ r.toInt = 1 ∨ ¬ bW w (bD b d) ∧ r.toInt = 0)))
theorem BE_un {h h1 h2 : Hp} {i1 i2 j1 j2 : Nat} {G : Prop} {l o p b w c q d r s : Int32} (f : BE h h1 8 i1 6 i2 G l o p b w c q d r) (g : BE h1 h2 117 j1 117 j2 G l o p b w c q d s) : r = s ∧ (h1 = h ∧ h2 = h ∨ G ∧ ∃ x : Int32, h1 = pI (pI h 8 i1 x) 6 i2 (bD b d) ∧ h2 = pI (pI h1 117 j1 x) 117 j2 (bD b d)) := by
  rcases f with ⟨f1, f2, f3⟩ | ⟨f1, x, f2, f3⟩
  · rcases g with ⟨g1, g2, g3⟩ | ⟨g1, y, g2, g3⟩
    · exact ⟨same_of f3 g3, Or.inl ⟨f2, g2.trans f2⟩⟩
    · exact absurd g1 f1
  · rcases g with ⟨g1, g2, g3⟩ | ⟨g1, y, g2, g3⟩
    · exact absurd f1 g1
    · have hx := bLf_un f2 g2
      subst hx
      rcases f3 with ⟨a1, a2, a3⟩ | ⟨a1, a2, a3⟩ <;> rcases g3 with ⟨b1, b2, b3⟩ | ⟨b1, b2, b3⟩
      · exact ⟨same_of a3 b3, Or.inl ⟨a2, b2.trans a2⟩⟩
      · exact absurd a1 b1
      · exact absurd b1 a1
      · refine ⟨?_, Or.inr ⟨f1, x, a2, b2⟩⟩
        rcases a3 with ⟨p1, p2⟩ | ⟨p1, p2⟩ <;> rcases b3 with ⟨q1, q2⟩ | ⟨q1, q2⟩
        · exact same_of p2 q2
        · exact absurd p1 q1
        · exact absurd q1 p1
        · exact same_of p2 q2
theorem bD_max {b d z : Int32} {B D Z : Int} (hb : b.toInt = B) (hd : d.toInt = D) (hz : z.toInt = Z) (g : B < D ∧ Z = D ∨ D ≤ B ∧ Z = B) : z = bD b d := by
  unfold bD
  rw [hb, hd]
  rcases g with ⟨g1, g2⟩ | ⟨g1, g2⟩
  · rw [if_pos g1]; exact same_of (hz.trans g2) hd
  · rw [if_neg (by (first | decide +kernel | omega))]; exact same_of (hz.trans g2) hb
theorem bM_dp {b d dp m : Int32} (h : dp = bD b d) (e : m = dp - b) : m = bM b d := by
  rw [e, h]
  unfold bD bM
  by_cases q : b.toInt < d.toInt
  · rw [if_pos q, if_pos q]
  · rw [if_neg q, if_neg q, Int32.sub_self]
theorem bM_0 {b d : Int32} {B D : Int} (hb : b.toInt = B) (hd : d.toInt = D) (h : D ≤ B) : (0 : Int32) = bM b d := by
  unfold bM
  rw [hb, hd, if_neg (by (first | decide +kernel | omega))]
theorem bM_1 {b d m : Int32} {B D : Int} (hb : b.toInt = B) (hd : d.toInt = D) (h : B < D) (e : m = d - b) : m = bM b d := by
  unfold bM
  rw [hb, hd, if_pos h, e]
theorem bD_add {b d m t : Int32} (hm : m = bM b d) (e : t = b + m) : t = bD b d := by
  rw [e, hm]
  unfold bM bD
  by_cases q : b.toInt < d.toInt
  · rw [if_pos q, if_pos q, Int32.add_comm]; exact Int32.sub_add_cancel d b
  · rw [if_neg q, if_neg q]; exact Int32.add_zero b
theorem bD_z {b d t : Int32} {B D T : Int} (h : t = bD b d) (ht : t.toInt = T) (hb : b.toInt = B) (hd : d.toInt = D) : T = D ∧ B < D ∨ T = B ∧ D ≤ B := by
  unfold bD at h
  by_cases q : b.toInt < d.toInt
  · rw [if_pos q] at h
    subst h
    omega
  · rw [if_neg q] at h
    subst h
    omega
theorem bLf_ex (p b w c q d : Int32) : ∃ x : Int32, bLf p b w c q d x := by
  by_cases h : ¬ bW w b ∧ bW w (bD b d)
  · exact ⟨_, Or.inl ⟨h, rfl⟩⟩
  · exact ⟨_, Or.inr ⟨h, rfl⟩⟩
theorem BE_cl {h h' : Hp} {kp ip kb ib : Nat} {l o p b w c q d r : Int32} (hl : l ≠ o) (e : h' = h) (er : r.toInt = -2) : ∃ x : Int32, bLf p b w c q d x ∧ (bRf l o p b c d x ∧ h' = h ∧ r.toInt = -2 ∨ ¬ bRf l o p b c d x ∧ h' = pI (pI h kp ip x) kb ib (bD b d) ∧ (bW w (bD b d) ∧ r.toInt = 1 ∨ ¬ bW w (bD b d) ∧ r.toInt = 0)) := by
  obtain ⟨x, hx⟩ := bLf_ex p b w c q d
  exact ⟨x, hx, Or.inl ⟨Or.inl hl, e, er⟩⟩
theorem BE_of {h h' : Hp} {kp ip kb ib : Nat} {G : Prop} {l o p b w c q d r dp m1 m2 pd x : Int32} {L O PD Y : Int} (hG : G) (hl : l.toInt = L) (ho : o.toInt = O) (hp : pd.toInt = PD) (hy : x.toInt = Y) (hd : dp = bD b d) (hm : m1 = bM b d) (e2 : m2 = c * m1) (e3 : pd = p - m2) (hx : (¬ bW w b ∧ bW w dp) ∧ x = pd + q ∨ ¬ (¬ bW w b ∧ bW w dp) ∧ x = pd) (hr : (L ≠ O ∨ PD < 0 ∨ 999 < Y) ∧ h' = h ∧ r.toInt = -2 ∨ (L = O ∧ 0 ≤ PD ∧ Y ≤ 999) ∧ h' = pI (pI h kp ip x) kb ib dp ∧ (bW w dp ∧ r.toInt = 1 ∨ ¬ bW w dp ∧ r.toInt = 0)) : BE h h' kp ip kb ib G l o p b w c q d r := by
  have e4 : pd = bPd p c b d := by unfold bPd; rw [e3, e2, hm]
  rw [hd] at hx hr
  rw [e4] at hx
  refine Or.inr ⟨hG, x, hx, ?_⟩
  have hq : bRf l o p b c d x ↔ (L ≠ O ∨ PD < 0 ∨ 999 < Y) := by
    unfold bRf
    rw [← e4, hp, hy]
    refine or_congr ?_ Iff.rfl
    rw [← hl, ← ho]
    exact not_congr Int32.toInt_inj.symm
  rcases hr with ⟨a, b1, c1⟩ | ⟨a, b1, c1⟩
  · exact Or.inl ⟨hq.mpr a, b1, c1⟩
  · exact Or.inr ⟨fun z => by have := hq.mp z; omega, b1, c1⟩
/-- wet -/
def Ewt (h h' : Hp) (k i : Nat) (G B : Prop) (v r : Int32) : Prop := G ∧ ¬ B ∧ h' = pI h k i v ∧ r = h.1 k i ∨ G ∧ B ∧ h' = h ∧ r.toInt = -2 ∨ ¬ G ∧ h' = h ∧ r.toInt = -1
end
