def S_Rod_feedX : List (Nat × Option Nat) := [(89, some 1), (90, none)]
abbrev q_Rod_feedX (h : Hp) (c : Int32) (cZ : Int) (t : Int32) (tZ : Int) : Option Value → Hp → Prop := pInt (fun r h' => Inv h' ∧ fr S_Rod_feedX h h' ∧ ∃ (u : Int32) (uZ : Int), u.toInt = uZ ∧ h'.1 89 1 = u ∧ (0 ≤ cZ ∧ cZ ≤ 127 ∧ tZ < 160 ∧ uZ = tZ + 1 ∧ fdY h h' 90 tZ.toNat c ∨ (tZ ≥ 160 ∨ cZ < 0 ∨ 127 < cZ) ∧ uZ = tZ ∧ fdN h h' 90))
set_option maxRecDepth 100000 in
theorem c_Rod_feedX (h : Hp) (hI : Inv h) (c : Int32) (cZ : Int) (cE : c.toInt = cZ) (t : Int32) (tZ : Int) (tE : t.toInt = tZ) (tK : h.1 89 1 = t) : Ct y_Rod_feed b_Rod_feed 2 (some .int) 0 0 [.ref 85, .int c] h (q_Rod_feedX h c cZ t tZ) := by
  refine ct_ow R_Rod [some (.ref 85), some (.int c)] rfl (by decide) rfl (Nat.le_of_ble_eq_true rfl) ?_
  have f0 : fr S_Rod_feedX h h := fr_rf
  have g1 : 0 ≤ tZ ∧ tZ ≤ 160 := inv_at hI tE tK.symm rfl
  refine V_iload_n 1 d_Rod_feed_0 rfl rfl ?_
  refine V_if_lt 10 cE d_Rod_feed_1 (by decide) (fun c2 => ?_) (fun c2 => ?_)
  ·
    refine V_iconst (-1) d_Rod_feed_10 (by decide) ?_
    exact V_iret rfl d_Rod_feed_11 ⟨(-1), rfl, ⟨hI, f0, t, tZ, tE, tK, (Or.inr ⟨by (first | decide +kernel | omega), by (first | decide +kernel | omega), fun _ => rfl⟩)⟩⟩
  ·
    refine V_iload_n 1 d_Rod_feed_4 rfl rfl ?_
    refine V_bipush 127 d_Rod_feed_5 (by decide) ?_
    refine V_icmp_le 12 cE tc_127 d_Rod_feed_7 (by decide) (fun c3 => ?_) (fun c3 => ?_)
    ·
      refine V_aload_n 0 d_Rod_feed_12 rfl rfl ?_
      refine V_getR fa_Rod_38 sk_85 rfl d_Rod_feed_13 ?_
      refine N_getK fa_Rod_67 sk_89 rfl d_Rod_feed_16 tK ?_
      refine V_sipush 160 d_Rod_feed_19 (by decide) ?_
      refine V_icmp_lt 28 tE tc_160 d_Rod_feed_22 (by decide) (fun c4 => ?_) (fun c4 => ?_)
      ·
        refine V_aload_n 0 d_Rod_feed_28 rfl rfl ?_
        refine V_getR fa_Rod_38 sk_85 rfl d_Rod_feed_29 ?_
        refine V_getR fa_Rod_73 sk_89 rfl d_Rod_feed_32 ?_
        refine V_aload_n 0 d_Rod_feed_35 rfl rfl ?_
        refine V_getR fa_Rod_38 sk_85 rfl d_Rod_feed_36 ?_
        refine N_getK fa_Rod_67 sk_89 rfl d_Rod_feed_39 tK ?_
        refine V_iload_n 1 d_Rod_feed_42 rfl rfl ?_
        refine N_i2b d_Rod_feed_43 (fun z5 z5Z z5E z5e => ?_)
        refine N_bast sk_90 tE (by (first | decide +kernel | omega)) d_Rod_feed_44 (fun h6 eh6 => ?_)
        have hI7 : Inv h6 := inv_full hI eh6 rfl
        have f8 : fr S_Rod_feedX h h6 := fr_put f0 eh6 rfl
        refine V_aload_n 0 d_Rod_feed_45 rfl rfl ?_
        refine V_getR fa_Rod_38 sk_85 rfl d_Rod_feed_46 ?_
        refine V_dup d_Rod_feed_49 rfl ?_
        refine N_getK fa_Rod_67 sk_89 rfl d_Rod_feed_50 (kn_ne eh6 tK (by decide)) ?_
        refine V_iconst 1 d_Rod_feed_53 (by decide) ?_
        refine V_iadd tE tc_1 (by (first | decide +kernel | omega)) d_Rod_feed_54 (fun z9 z9e z9E => ?_)
        refine N_putI fp_Rod_67 sk_89 rfl d_Rod_feed_55 (fun h10 eh10 => ?_)
        have hI11 : Inv h10 := inv_put (lo := 0) (hi := 160) hI7 eh10 rfl z9E (by (first | decide +kernel | omega))
        have f12 : fr S_Rod_feedX h h10 := fr_put f8 eh10 rfl
        refine V_aload_n 0 d_Rod_feed_58 rfl rfl ?_
        refine V_getR fa_Rod_38 sk_85 rfl d_Rod_feed_59 ?_
        refine N_getK fa_Rod_67 sk_89 rfl d_Rod_feed_62 (kn_put eh10) ?_
        exact V_iret rfl d_Rod_feed_65 ⟨z9, rfl, ⟨hI11, f12, z9, (tZ + 1), z9E, (kn_put eh10), (Or.inl ⟨by (first | decide +kernel | omega), by (first | decide +kernel | omega), by (first | decide +kernel | omega), by (first | decide +kernel | omega), ((kn_ne eh10 (kn_put eh6) (by decide)).trans (by rw [z5e]; exact (pk_vb c).trans (byte_same cE (by (first | decide +kernel | omega))))), fun j hj => (kn_ne eh10 rfl (by decide)).trans (kn_nei eh6 rfl hj)⟩)⟩⟩
      ·
        refine V_bipush (-3) d_Rod_feed_25 (by decide) ?_
        exact V_iret rfl d_Rod_feed_27 ⟨(-3), rfl, ⟨hI, f0, t, tZ, tE, tK, (Or.inr ⟨by (first | decide +kernel | omega), by (first | decide +kernel | omega), fun _ => rfl⟩)⟩⟩
    ·
      refine V_iconst (-1) d_Rod_feed_10 (by decide) ?_
      exact V_iret rfl d_Rod_feed_11 ⟨(-1), rfl, ⟨hI, f0, t, tZ, tE, tK, (Or.inr ⟨by (first | decide +kernel | omega), by (first | decide +kernel | omega), fun _ => rfl⟩)⟩⟩
def S_Mod_feedX : List (Nat × Option Nat) := [(116, some 15), (121, none)]
abbrev q_Mod_feedX (h : Hp) (c : Int32) (cZ : Int) (t : Int32) (tZ : Int) : Option Value → Hp → Prop := pInt (fun r h' => Inv h' ∧ fr S_Mod_feedX h h' ∧ ∃ (u : Int32) (uZ : Int), u.toInt = uZ ∧ h'.1 116 15 = u ∧ (0 ≤ cZ ∧ cZ ≤ 127 ∧ tZ < 160 ∧ uZ = tZ + 1 ∧ fdY h h' 121 tZ.toNat c ∨ (tZ ≥ 160 ∨ cZ < 0 ∨ 127 < cZ) ∧ uZ = tZ ∧ fdN h h' 121))
set_option maxRecDepth 100000 in
theorem c_Mod_feedX (h : Hp) (hI : Inv h) (c : Int32) (cZ : Int) (cE : c.toInt = cZ) (t : Int32) (tZ : Int) (tE : t.toInt = tZ) (tK : h.1 116 15 = t) : Ct y_Mod_feed b_Mod_feed 2 (some .int) 1 25 [.ref 116, .int c] h (q_Mod_feedX h c cZ t tZ) := by
  refine ct_ow R_Mod [some (.ref 116), some (.int c)] rfl (by decide) rfl (Nat.le_of_ble_eq_true rfl) ?_
  have f0 : fr S_Mod_feedX h h := fr_rf
  have g1 : 0 ≤ tZ ∧ tZ ≤ 160 := inv_at hI tE tK.symm rfl
  refine V_iload_n 1 d_Mod_feed_0 rfl rfl ?_
  refine V_i2l d_Mod_feed_1 (fun z2 z2e z2E => ?_)
  have z2F : z2.toInt = cZ := z2E.trans cE
  refine V_lconst 0 d_Mod_feed_2 (by decide) ?_
  refine V_ldc2 d_Mod_feed_3 wl_Mod_93 ?_
  refine N_callSI [.long z2, .long 0, .long 127] [] cs_Mod_95 d_Mod_feed_6 rfl (Nat.le_of_ble_eq_true rfl) (by decide) (by decide) (c_Mod_in h z2 cZ z2F 0 0 tl_0 127 127 tl_127) (fun z3 h4 z3Z z3E p5 => ?_)
  obtain ⟨eh4, p5⟩ := p5
  subst eh4
  refine V_if_ne 14 z3E d_Mod_feed_9 (by decide) (fun c6 => ?_) (fun c6 => ?_)
  ·
    refine V_aload_n 0 d_Mod_feed_14 rfl rfl ?_
    refine N_getK fa_Mod_99 sk_116 rfl d_Mod_feed_15 tK ?_
    refine V_sipush 160 d_Mod_feed_18 (by decide) ?_
    refine V_icmp_ne 27 tE tc_160 d_Mod_feed_21 (by decide) (fun c7 => ?_) (fun c7 => ?_)
    ·
      refine V_aload_n 0 d_Mod_feed_27 rfl rfl ?_
      refine V_getR fa_Mod_23 sk_116 rfl d_Mod_feed_28 ?_
      refine V_aload_n 0 d_Mod_feed_31 rfl rfl ?_
      refine N_getK fa_Mod_99 sk_116 rfl d_Mod_feed_32 tK ?_
      refine V_iload_n 1 d_Mod_feed_35 rfl rfl ?_
      refine N_iast sk_121 tE (by (first | decide +kernel | omega)) d_Mod_feed_36 (fun h8 eh8 => ?_)
      have hI9 : Inv h8 := inv_full hI eh8 rfl
      have f10 : fr S_Mod_feedX h h8 := fr_put f0 eh8 rfl
      refine V_aload_n 0 d_Mod_feed_37 rfl rfl ?_
      refine V_dup d_Mod_feed_38 rfl ?_
      refine N_getK fa_Mod_99 sk_116 rfl d_Mod_feed_39 (kn_ne eh8 tK (by decide)) ?_
      refine V_iconst 1 d_Mod_feed_42 (by decide) ?_
      refine V_iadd tE tc_1 (by (first | decide +kernel | omega)) d_Mod_feed_43 (fun z11 z11e z11E => ?_)
      refine N_putI fp_Mod_99 sk_116 rfl d_Mod_feed_44 (fun h12 eh12 => ?_)
      have hI13 : Inv h12 := inv_put (lo := 0) (hi := 160) hI9 eh12 rfl z11E (by (first | decide +kernel | omega))
      have f14 : fr S_Mod_feedX h h12 := fr_put f10 eh12 rfl
      refine V_aload_n 0 d_Mod_feed_47 rfl rfl ?_
      refine N_getK fa_Mod_99 sk_116 rfl d_Mod_feed_48 (kn_put eh12) ?_
      exact V_iret rfl d_Mod_feed_51 ⟨z11, rfl, ⟨hI13, f14, z11, (tZ + 1), z11E, (kn_put eh12), (Or.inl ⟨by (first | decide +kernel | omega), by (first | decide +kernel | omega), by (first | decide +kernel | omega), by (first | decide +kernel | omega), ((kn_ne eh12 (kn_put eh8) (by decide))), fun j hj => (kn_ne eh12 rfl (by decide)).trans (kn_nei eh8 rfl hj)⟩)⟩⟩
    ·
      refine V_bipush (-3) d_Mod_feed_24 (by decide) ?_
      exact V_iret rfl d_Mod_feed_26 ⟨(-3), rfl, ⟨hI, f0, t, tZ, tE, tK, (Or.inr ⟨by (first | decide +kernel | omega), by (first | decide +kernel | omega), fun _ => rfl⟩)⟩⟩
  ·
    refine V_iconst (-1) d_Mod_feed_12 (by decide) ?_
    exact V_iret rfl d_Mod_feed_13 ⟨(-1), rfl, ⟨hI, f0, t, tZ, tE, tK, (Or.inr ⟨by (first | decide +kernel | omega), by (first | decide +kernel | omega), fun _ => rfl⟩)⟩⟩
abbrev q_Rod_faultX (h : Hp)  : Option Value → Hp → Prop := pInt (fun r h' => h = h' ∧ (r = h.1 88 6))
set_option maxRecDepth 100000 in
theorem c_Rod_faultX (h : Hp) (hI : Inv h) : Ct y_Rod_fault b_Rod_fault 1 (some .int) 0 0 [.ref 85] h (q_Rod_faultX h ) := by
  refine ct_ow R_Rod [some (.ref 85)] rfl (by decide) rfl (Nat.le_of_ble_eq_true rfl) ?_
  have f0 : fr [] h h := fr_rf
  refine V_aload_n 0 d_Rod_fault_0 rfl rfl ?_
  refine V_getR fa_Rod_30 sk_85 rfl d_Rod_fault_1 ?_
  refine N_getI fa_Rod_88 sk_88 rfl d_Rod_fault_4 (fun z1 z1Z z1E z1e => ?_)
  exact V_iret rfl d_Rod_fault_7 ⟨z1, rfl, ⟨rfl, z1e.symm.symm⟩⟩
abbrev q_Mod_faultX (h : Hp)  : Option Value → Hp → Prop := pInt (fun r h' => h = h' ∧ (r = h.1 116 20))
set_option maxRecDepth 100000 in
theorem c_Mod_faultX (h : Hp) (hI : Inv h) : Ct y_Mod_fault b_Mod_fault 1 (some .int) 0 0 [.ref 116] h (q_Mod_faultX h ) := by
  refine ct_ow R_Mod [some (.ref 116)] rfl (by decide) rfl (Nat.le_of_ble_eq_true rfl) ?_
  have f0 : fr [] h h := fr_rf
  refine V_aload_n 0 d_Mod_fault_0 rfl rfl ?_
  refine N_getI fa_Mod_102 sk_116 rfl d_Mod_fault_1 (fun z1 z1Z z1E z1e => ?_)
  exact V_iret rfl d_Mod_fault_4 ⟨z1, rfl, ⟨rfl, z1e.symm.symm⟩⟩
