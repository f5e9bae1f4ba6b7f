def S_Mod_copiesX : List (Nat × Option Nat) := [(117, none)]
abbrev q_Mod_copiesX (h : Hp) (t : Int32) (tZ : Int) (f : Int32) (fZ : Int) : Option Value → Hp → Prop := pVd (fun h' => Inv h' ∧ fr S_Mod_copiesX h h' ∧ (mcl h h' tZ fZ 144))
set_option maxRecDepth 100000 in
theorem c_Mod_copiesX (h : Hp) (hI : Inv h) (t : Int32) (tZ : Int) (tE : t.toInt = tZ) (f : Int32) (fZ : Int) (fE : f.toInt = fZ) (hy0 : (tZ = 0 ∨ tZ = 144 ∨ tZ = 288) ∧ (fZ = 0 ∨ fZ = 144 ∨ fZ = 288)) (hy1 : tZ ≠ fZ) : Ct y_Mod_copies b_Mod_copies 4 none 0 0 [.ref 116, .int t, .int f] h (q_Mod_copiesX h t tZ f fZ) := by
  refine ct_ow R_Mod [some (.ref 116), some (.int t), some (.int f), none] rfl (by decide) rfl (Nat.le_of_ble_eq_true rfl) ?_
  have f0 : fr S_Mod_copiesX h h := fr_rf
  refine V_iconst 0 d_Mod_copies_0 (by decide) ?_
  refine V_istore_n 3 [some (.ref 116), some (.int t), some (.int f), some (.int 0)] d_Mod_copies_1 rfl (by decide) rfl rfl ?_
  have L1 : ∀ (nn : Nat) (v3 : Int32) (v3Z : Int) (h4 : Hp), v3.toInt = v3Z → Inv h4 → fr S_Mod_copiesX h h4 → 0 ≤ v3Z ∧ v3Z ≤ 144 → mcl h h4 tZ fZ v3Z → 144 - v3Z < (nn : Int) → V R_Mod b_Mod_copies 4 none 0 0 (q_Mod_copiesX h t tZ f fZ) h4 2 [some (.ref 116), some (.int t), some (.int f), some (.int v3)] [] := by
    intro nn
    induction nn with
    | zero => intro v3 v3Z h4 v3E Ih4 Fh4 q5 q6 hm7; exact absurd hm7 (by (first | decide +kernel | omega))
    | succ nn ihL1 =>
      intro v3 v3Z h4 v3E Ih4 Fh4 q5 q6 hm7
      refine V_iload_n 3 d_Mod_copies_2 rfl rfl ?_
      refine V_sipush 144 d_Mod_copies_3 (by decide) ?_
      refine V_icmp_ge 31 v3E tc_144 d_Mod_copies_6 (by decide) (fun c8 => ?_) (fun c8 => ?_)
      ·
        exact V_vret rfl d_Mod_copies_31 ⟨rfl, ⟨Ih4, Fh4, (by rw [show (144 : Int) = v3Z by (first | decide +kernel | omega)]; assumption)⟩⟩
      ·
        refine V_aload_n 0 d_Mod_copies_9 rfl rfl ?_
        refine V_getR fa_Mod_7 sk_116 rfl d_Mod_copies_10 ?_
        refine V_iload_n 1 d_Mod_copies_13 rfl rfl ?_
        refine V_iload_n 3 d_Mod_copies_14 rfl rfl ?_
        refine V_iadd tE v3E (by (first | decide +kernel | omega)) d_Mod_copies_15 (fun z9 z9e z9E => ?_)
        refine V_aload_n 0 d_Mod_copies_16 rfl rfl ?_
        refine V_getR fa_Mod_7 sk_116 rfl d_Mod_copies_17 ?_
        refine V_iload_n 2 d_Mod_copies_20 rfl rfl ?_
        refine V_iload_n 3 d_Mod_copies_21 rfl rfl ?_
        refine V_iadd fE v3E (by (first | decide +kernel | omega)) d_Mod_copies_22 (fun z10 z10e z10E => ?_)
        refine N_iald sk_117 z10E (by (first | decide +kernel | omega)) d_Mod_copies_23 (fun z11 z11Z z11E z11e => ?_)
        refine N_iast sk_117 z9E (by (first | decide +kernel | omega)) d_Mod_copies_24 (fun h12 eh12 => ?_)
        have hI13 : Inv h12 := inv_st Ih4 eh12 (Or.inl rfl) z11E (stOk_of Ih4 (Or.inl rfl) z11E z11e (by (first | decide +kernel | omega)))
        have f14 : fr S_Mod_copiesX h h12 := fr_put Fh4 eh12 rfl
        obtain ⟨z15, z15E, z15e⟩ : ∃ y : Int32, y.toInt = v3Z + 1 ∧ y = v3 + Int32.ofInt 1 := ⟨_, ti_add v3E (by decide) (by (first | decide +kernel | omega)), rfl⟩
        refine V_iinc 3 [some (.ref 116), some (.int t), some (.int f), some (.int z15)] d_Mod_copies_25 rfl z15e.symm (by decide) rfl rfl ?_
        refine V_goto 2 d_Mod_copies_28 (by decide) ?_
        exact ihL1 z15 ((v3Z + 1)) h12 z15E hI13 f14 (by (first | decide +kernel | omega)) (mcl_s (by assumption) (by (first | decide +kernel | omega)) hy0 hy1 eh12 (by assumption)) (by (first | decide +kernel | omega))
  exact L1 (Int.toNat ((144 - 0 : Int) + 1)) 0 0 h tc_0 hI f0 (by (first | decide +kernel | omega)) mcl_0 (by (first | decide +kernel | omega))
def S_Rod_keepX : List (Nat × Option Nat) := [(34, some 3), (34, some 4), (35, none), (36, none), (37, none), (38, none), (39, none), (40, none), (41, some 4), (42, none), (43, none), (44, none), (45, none), (46, some 4), (47, none), (48, none), (49, none), (50, none), (51, some 3), (51, some 4), (52, none), (53, none), (54, none), (55, none), (56, none), (57, none), (58, some 4), (59, none), (60, none), (61, none), (62, none), (63, some 4), (64, none), (65, none), (66, none), (67, none), (87, none)]
abbrev q_Rod_keepX (h : Hp) (k : Int32) (kZ : Int) : Option Value → Hp → Prop := pInt (fun r h' => Inv h' ∧ fr S_Rod_keepX h h' ∧ (kZ = 0 ∧ KP h h' 34 51 0 ∧ FQ (h.1 87 0) r ∨ kZ = 1 ∧ KP h h' 51 34 1 ∧ FQ (h.1 87 1) r ∨ (kZ < 0 ∨ 1 < kZ) ∧ h' = h ∧ r.toInt = -1))
set_option maxRecDepth 100000 in
theorem c_Rod_keepX (h : Hp) (hI : Inv h) (k : Int32) (kZ : Int) (kE : k.toInt = kZ) : Ct y_Rod_keep b_Rod_keep 3 (some .int) 3 102 [.ref 85, .int k] h (q_Rod_keepX h k kZ) := by
  refine ct_ow R_Rod [some (.ref 85), some (.int k), none] rfl (by decide) rfl (Nat.le_of_ble_eq_true rfl) ?_
  have f0 : fr S_Rod_keepX h h := fr_rf
  refine V_iload_n 1 d_Rod_keep_0 rfl rfl ?_
  refine V_if_lt 9 kE d_Rod_keep_1 (by decide) (fun c1 => ?_) (fun c1 => ?_)
  ·
    refine V_iconst (-1) d_Rod_keep_9 (by decide) ?_
    exact V_iret rfl d_Rod_keep_10 ⟨(-1), rfl, ⟨hI, f0, (Or.inr (Or.inr ⟨by (first | decide +kernel | omega), rfl, tc_m1⟩))⟩⟩
  ·
    refine V_iload_n 1 d_Rod_keep_4 rfl rfl ?_
    refine V_iconst 2 d_Rod_keep_5 (by decide) ?_
    refine V_icmp_lt 11 kE tc_2 d_Rod_keep_6 (by decide) (fun c2 => ?_) (fun c2 => ?_)
    ·
      refine V_aload_n 0 d_Rod_keep_11 rfl rfl ?_
      refine V_getR fa_Rod_23 sk_85 rfl d_Rod_keep_12 ?_
      refine V_iload_n 1 d_Rod_keep_15 rfl rfl ?_
      refine N_zald sk_87 kE (by (first | decide +kernel | omega)) d_Rod_keep_16 (fun z3 z3Z z3E z3e => ?_)
      refine N_callSI [.int z3] [] cs_Rod_147 d_Rod_keep_17 rfl (Nat.le_of_ble_eq_true rfl) (by decide) (by decide) (c_Rod_oneIf h z3 z3Z z3E) (fun z4 h5 z4Z z4E p6 => ?_)
      obtain ⟨eh5, p6⟩ := p6
      subst eh5
      refine V_istore_n 2 [some (.ref 85), some (.int k), some (.int z4)] d_Rod_keep_20 rfl (by decide) rfl rfl ?_
      refine V_aload_n 0 d_Rod_keep_21 rfl rfl ?_
      refine V_getR fa_Rod_19 sk_85 rfl d_Rod_keep_22 ?_
      refine V_iload_n 1 d_Rod_keep_25 rfl rfl ?_
      rcases (by (first | decide +kernel | omega) : kZ = 0 ∨ kZ = 1) with c7 | c7
      ·
        refine V_aald (r := 34) sk_86 (by decide) kE (by (first | decide +kernel | omega)) (by rw [c7]; rfl) d_Rod_keep_26 ?_
        refine V_aload_n 0 d_Rod_keep_27 rfl rfl ?_
        refine V_getR fa_Rod_12 sk_85 rfl d_Rod_keep_28 ?_
        obtain ⟨z8, z8Z, z8E, z8e⟩ : ∃ (y : Int32) (Y : Int), y.toInt = Y ∧ y = h.1 0 3 := ⟨_, _, rfl, rfl⟩
        obtain ⟨z9, z9Z, z9E, z9e⟩ : ∃ (y : Int32) (Y : Int), y.toInt = Y ∧ y = h.1 0 4 := ⟨_, _, rfl, rfl⟩
        refine N_callVV [.ref 0] [] cv_Rod_84 sk_34 rfl d_Rod_keep_31 rfl (Nat.le_of_ble_eq_true rfl) (by decide) (by decide) (c_County_copyX_2_0 h hI z8 z8Z z8E z8e.symm z9 z9Z z9E z9e.symm) (fun h11 p12 => ?_)
        obtain ⟨hI13, fh11, p12⟩ := p12
        have f14 : fr S_Rod_keepX h h11 := fr_call f0 fh11 rfl
        refine V_aload_n 0 d_Rod_keep_34 rfl rfl ?_
        refine V_getR fa_Rod_23 sk_85 rfl d_Rod_keep_35 ?_
        refine V_iload_n 1 d_Rod_keep_38 rfl rfl ?_
        refine V_iconst 1 d_Rod_keep_39 (by decide) ?_
        refine N_zast sk_87 kE (by (first | decide +kernel | omega)) d_Rod_keep_40 (fun h15 eh15 => ?_)
        have hI16 : Inv h15 := inv_full hI13 eh15 rfl
        have f17 : fr S_Rod_keepX h h15 := fr_put f14 eh15 rfl
        refine V_iload_n 2 d_Rod_keep_41 rfl rfl ?_
        exact V_iret rfl d_Rod_keep_42 ⟨z4, rfl, ⟨hI16, f17, (Or.inl ⟨by (first | decide +kernel | omega), KP_of p12 fh11 rfl rfl (by decide) eh15 (by decide) (by (first | decide +kernel | omega)), FQ_of z3e (by (first | decide +kernel | omega)) z3E p6⟩)⟩⟩
      ·
        refine V_aald (r := 51) sk_86 (by decide) kE (by (first | decide +kernel | omega)) (by rw [c7]; rfl) d_Rod_keep_26 ?_
        refine V_aload_n 0 d_Rod_keep_27 rfl rfl ?_
        refine V_getR fa_Rod_12 sk_85 rfl d_Rod_keep_28 ?_
        obtain ⟨z18, z18Z, z18E, z18e⟩ : ∃ (y : Int32) (Y : Int), y.toInt = Y ∧ y = h.1 0 3 := ⟨_, _, rfl, rfl⟩
        obtain ⟨z19, z19Z, z19E, z19e⟩ : ∃ (y : Int32) (Y : Int), y.toInt = Y ∧ y = h.1 0 4 := ⟨_, _, rfl, rfl⟩
        refine N_callVV [.ref 0] [] cv_Rod_84 sk_51 rfl d_Rod_keep_31 rfl (Nat.le_of_ble_eq_true rfl) (by decide) (by decide) (c_County_copyX_3_0 h hI z18 z18Z z18E z18e.symm z19 z19Z z19E z19e.symm) (fun h21 p22 => ?_)
        obtain ⟨hI23, fh21, p22⟩ := p22
        have f24 : fr S_Rod_keepX h h21 := fr_call f0 fh21 rfl
        refine V_aload_n 0 d_Rod_keep_34 rfl rfl ?_
        refine V_getR fa_Rod_23 sk_85 rfl d_Rod_keep_35 ?_
        refine V_iload_n 1 d_Rod_keep_38 rfl rfl ?_
        refine V_iconst 1 d_Rod_keep_39 (by decide) ?_
        refine N_zast sk_87 kE (by (first | decide +kernel | omega)) d_Rod_keep_40 (fun h25 eh25 => ?_)
        have hI26 : Inv h25 := inv_full hI23 eh25 rfl
        have f27 : fr S_Rod_keepX h h25 := fr_put f24 eh25 rfl
        refine V_iload_n 2 d_Rod_keep_41 rfl rfl ?_
        exact V_iret rfl d_Rod_keep_42 ⟨z4, rfl, ⟨hI26, f27, (Or.inr (Or.inl ⟨by (first | decide +kernel | omega), KP_of p22 fh21 rfl rfl (by decide) eh25 (by decide) (by (first | decide +kernel | omega)), FQ_of z3e (by (first | decide +kernel | omega)) z3E p6⟩))⟩⟩
    ·
      refine V_iconst (-1) d_Rod_keep_9 (by decide) ?_
      exact V_iret rfl d_Rod_keep_10 ⟨(-1), rfl, ⟨hI, f0, (Or.inr (Or.inr ⟨by (first | decide +kernel | omega), rfl, tc_m1⟩))⟩⟩
def S_Mod_keepX : List (Nat × Option Nat) := [(117, none), (118, none)]
abbrev q_Mod_keepX (h : Hp) (k : Int32) (kZ : Int) : Option Value → Hp → Prop := pInt (fun r h' => Inv h' ∧ fr S_Mod_keepX h h' ∧ (kZ = 0 ∧ MKP h h' 144 0 ∧ FQ (h.1 118 0) r ∨ kZ = 1 ∧ MKP h h' 288 1 ∧ FQ (h.1 118 1) r ∨ (kZ < 0 ∨ 1 < kZ) ∧ h' = h ∧ r.toInt = -1))
set_option maxRecDepth 100000 in
theorem c_Mod_keepX (h : Hp) (hI : Inv h) (k : Int32) (kZ : Int) (kE : k.toInt = kZ) : Ct y_Mod_keep b_Mod_keep 3 (some .int) 1 25 [.ref 116, .int k] h (q_Mod_keepX h k kZ) := by
  refine ct_ow R_Mod [some (.ref 116), some (.int k), none] rfl (by decide) rfl (Nat.le_of_ble_eq_true rfl) ?_
  have f0 : fr S_Mod_keepX h h := fr_rf
  refine V_iload_n 1 d_Mod_keep_0 rfl rfl ?_
  refine V_i2l d_Mod_keep_1 (fun z1 z1e z1E => ?_)
  have z1F : z1.toInt = kZ := z1E.trans kE
  refine V_lconst 0 d_Mod_keep_2 (by decide) ?_
  refine V_lconst 1 d_Mod_keep_3 (by decide) ?_
  refine N_callSI [.long z1, .long 0, .long 1] [] cs_Mod_95 d_Mod_keep_4 rfl (Nat.le_of_ble_eq_true rfl) (by decide) (by decide) (c_Mod_in h z1 kZ z1F 0 0 tl_0 1 1 tl_1) (fun z2 h3 z2Z z2E p4 => ?_)
  obtain ⟨eh3, p4⟩ := p4
  subst eh3
  refine V_if_ne 12 z2E d_Mod_keep_7 (by decide) (fun c5 => ?_) (fun c5 => ?_)
  ·
    rcases (by (first | decide +kernel | omega) : kZ = 0 ∨ kZ = 1) with c6 | c6
    ·
      refine V_aload_n 0 d_Mod_keep_12 rfl rfl ?_
      refine V_getR fa_Mod_13 sk_116 rfl d_Mod_keep_13 ?_
      refine V_iload_n 1 d_Mod_keep_16 rfl rfl ?_
      refine N_zald sk_118 kE (by (first | decide +kernel | omega)) d_Mod_keep_17 (fun z7 z7Z z7E z7e => ?_)
      refine N_callSI [.int z7] [] cs_Mod_196 d_Mod_keep_18 rfl (Nat.le_of_ble_eq_true rfl) (by decide) (by decide) (c_Mod_flag h z7 z7Z z7E) (fun z8 h9 z8Z z8E p10 => ?_)
      obtain ⟨eh9, p10⟩ := p10
      subst eh9
      refine V_istore_n 2 [some (.ref 116), some (.int k), some (.int z8)] d_Mod_keep_21 rfl (by decide) rfl rfl ?_
      refine V_aload_n 0 d_Mod_keep_22 rfl rfl ?_
      refine V_getR fa_Mod_13 sk_116 rfl d_Mod_keep_23 ?_
      refine V_iload_n 1 d_Mod_keep_26 rfl rfl ?_
      refine V_iconst 1 d_Mod_keep_27 (by decide) ?_
      refine N_zast sk_118 kE (by (first | decide +kernel | omega)) d_Mod_keep_28 (fun h11 eh11 => ?_)
      have hI12 : Inv h11 := inv_full hI eh11 rfl
      have f13 : fr S_Mod_keepX h h11 := fr_put f0 eh11 rfl
      refine V_aload_n 0 d_Mod_keep_29 rfl rfl ?_
      refine V_sipush 144 d_Mod_keep_30 (by decide) ?_
      refine V_iload_n 1 d_Mod_keep_33 rfl rfl ?_
      refine V_iconst 1 d_Mod_keep_34 (by decide) ?_
      refine V_iadd kE tc_1 (by (first | decide +kernel | omega)) d_Mod_keep_35 (fun z14 z14e z14E => ?_)
      refine V_imul tc_144 z14E (by (first | decide +kernel | omega)) d_Mod_keep_36 (fun z15 z15e z15E => ?_)
      refine V_iconst 0 d_Mod_keep_37 (by decide) ?_
      refine N_callVV [.int z15, .int 0] [] cv_Mod_317 sk_116 rfl d_Mod_keep_38 rfl (Nat.le_of_ble_eq_true rfl) (by decide) (by decide) (c_Mod_copiesX h11 hI12 z15 ((144 * (kZ + 1))) z15E 0 0 tc_0 (by (first | decide +kernel | omega)) (by (first | decide +kernel | omega))) (fun h17 p18 => ?_)
      obtain ⟨hI19, fh17, p18⟩ := p18
      have f20 : fr S_Mod_keepX h h17 := fr_call f13 fh17 rfl
      refine V_iload_n 2 d_Mod_keep_41 rfl rfl ?_
      exact V_iret rfl d_Mod_keep_42 ⟨z8, rfl, ⟨hI19, f20, (Or.inl ⟨by (first | decide +kernel | omega), MKP_of eh11 (by decide) (by (first | decide +kernel | omega)) p18 (by (first | decide +kernel | omega)) fh17 rfl, FQ_of z7e (by (first | decide +kernel | omega)) z7E p10⟩)⟩⟩
    ·
      refine V_aload_n 0 d_Mod_keep_12 rfl rfl ?_
      refine V_getR fa_Mod_13 sk_116 rfl d_Mod_keep_13 ?_
      refine V_iload_n 1 d_Mod_keep_16 rfl rfl ?_
      refine N_zald sk_118 kE (by (first | decide +kernel | omega)) d_Mod_keep_17 (fun z21 z21Z z21E z21e => ?_)
      refine N_callSI [.int z21] [] cs_Mod_196 d_Mod_keep_18 rfl (Nat.le_of_ble_eq_true rfl) (by decide) (by decide) (c_Mod_flag h z21 z21Z z21E) (fun z22 h23 z22Z z22E p24 => ?_)
      obtain ⟨eh23, p24⟩ := p24
      subst eh23
      refine V_istore_n 2 [some (.ref 116), some (.int k), some (.int z22)] d_Mod_keep_21 rfl (by decide) rfl rfl ?_
      refine V_aload_n 0 d_Mod_keep_22 rfl rfl ?_
      refine V_getR fa_Mod_13 sk_116 rfl d_Mod_keep_23 ?_
      refine V_iload_n 1 d_Mod_keep_26 rfl rfl ?_
      refine V_iconst 1 d_Mod_keep_27 (by decide) ?_
      refine N_zast sk_118 kE (by (first | decide +kernel | omega)) d_Mod_keep_28 (fun h25 eh25 => ?_)
      have hI26 : Inv h25 := inv_full hI eh25 rfl
      have f27 : fr S_Mod_keepX h h25 := fr_put f0 eh25 rfl
      refine V_aload_n 0 d_Mod_keep_29 rfl rfl ?_
      refine V_sipush 144 d_Mod_keep_30 (by decide) ?_
      refine V_iload_n 1 d_Mod_keep_33 rfl rfl ?_
      refine V_iconst 1 d_Mod_keep_34 (by decide) ?_
      refine V_iadd kE tc_1 (by (first | decide +kernel | omega)) d_Mod_keep_35 (fun z28 z28e z28E => ?_)
      refine V_imul tc_144 z28E (by (first | decide +kernel | omega)) d_Mod_keep_36 (fun z29 z29e z29E => ?_)
      refine V_iconst 0 d_Mod_keep_37 (by decide) ?_
      refine N_callVV [.int z29, .int 0] [] cv_Mod_317 sk_116 rfl d_Mod_keep_38 rfl (Nat.le_of_ble_eq_true rfl) (by decide) (by decide) (c_Mod_copiesX h25 hI26 z29 ((144 * (kZ + 1))) z29E 0 0 tc_0 (by (first | decide +kernel | omega)) (by (first | decide +kernel | omega))) (fun h31 p32 => ?_)
      obtain ⟨hI33, fh31, p32⟩ := p32
      have f34 : fr S_Mod_keepX h h31 := fr_call f27 fh31 rfl
      refine V_iload_n 2 d_Mod_keep_41 rfl rfl ?_
      exact V_iret rfl d_Mod_keep_42 ⟨z22, rfl, ⟨hI33, f34, (Or.inr (Or.inl ⟨by (first | decide +kernel | omega), MKP_of eh25 (by decide) (by (first | decide +kernel | omega)) p32 (by (first | decide +kernel | omega)) fh31 rfl, FQ_of z21e (by (first | decide +kernel | omega)) z21E p24⟩))⟩⟩
  ·
    refine V_iconst (-1) d_Mod_keep_10 (by decide) ?_
    exact V_iret rfl d_Mod_keep_11 ⟨(-1), rfl, ⟨hI, f0, (Or.inr (Or.inr ⟨by (first | decide +kernel | omega), rfl, tc_m1⟩))⟩⟩
