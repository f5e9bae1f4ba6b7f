def S_Mod_copiesX : List (Nat × Option Nat) := [(117, none)]
abbrev q_Mod_copiesX (h : Hp) (t : Int32) (tZ : Int) (f : Int32) (fZ : Int) : Option Value → Hp → Prop := pVd (fun h' => Inv h' ∧ fr S_Mod_copiesX h h' ∧ (mcl h h' tZ fZ 144))
set_option maxRecDepth 100000 in
theorem c_Mod_copiesX (h : Hp) (hI : Inv h) (t : Int32) (tZ : Int) (tE : t.toInt = tZ) (f : Int32) (fZ : Int) (fE : f.toInt = fZ) (hy0 : (tZ = 0 ∨ tZ = 144 ∨ tZ = 288) ∧ (fZ = 0 ∨ fZ = 144 ∨ fZ = 288)) (hy1 : tZ ≠ fZ) : Ct y_Mod_copies b_Mod_copies 4 none 0 0 [.ref 116, .int t, .int f] h (q_Mod_copiesX h t tZ f fZ) := by
  refine ct_ow R_Mod [some (.ref 116), some (.int t), some (.int f), none] rfl (by decide) rfl (Nat.le_of_ble_eq_true rfl) ?_
  have f0 : fr S_Mod_copiesX h h := fr_rf
  refine V_iconst 0 d_Mod_copies_0 (by decide) ?_
  refine V_istore_n 3 [some (.ref 116), some (.int t), some (.int f), some (.int 0)] d_Mod_copies_1 rfl (by decide) rfl rfl ?_
  have L1 : ∀ (nn : Nat) (v3 : Int32) (v3Z : Int) (h4 : Hp), v3.toInt = v3Z → Inv h4 → fr S_Mod_copiesX h h4 → 0 ≤ v3Z ∧ v3Z ≤ 144 → mcl h h4 tZ fZ v3Z → 144 - v3Z < (nn : Int) → V R_Mod b_Mod_copies 4 none 0 0 (q_Mod_copiesX h t tZ f fZ) h4 2 [some (.ref 116), some (.int t), some (.int f), some (.int v3)] [] := by
    intro nn
    induction nn with
    | zero => intro v3 v3Z h4 v3E Ih4 Fh4 q5 q6 hm7; exact absurd hm7 (by omega)
    | succ nn ihL1 =>
      intro v3 v3Z h4 v3E Ih4 Fh4 q5 q6 hm7
      refine V_iload_n 3 d_Mod_copies_2 rfl rfl ?_
      refine V_sipush 144 d_Mod_copies_3 (by decide) ?_
      refine V_icmp_ge 31 v3E tc_144 d_Mod_copies_6 (by decide) (fun c8 => ?_) (fun c8 => ?_)
      ·
        exact V_vret rfl d_Mod_copies_31 ⟨rfl, ⟨Ih4, Fh4, (by rw [show (144 : Int) = v3Z by omega]; assumption)⟩⟩
      ·
        refine V_aload_n 0 d_Mod_copies_9 rfl rfl ?_
        refine V_getR fa_Mod_7 sk_116 rfl d_Mod_copies_10 ?_
        refine V_iload_n 1 d_Mod_copies_13 rfl rfl ?_
        refine V_iload_n 3 d_Mod_copies_14 rfl rfl ?_
        refine V_iadd tE v3E (by omega) d_Mod_copies_15 (fun z9 z9e z9E => ?_)
        refine V_aload_n 0 d_Mod_copies_16 rfl rfl ?_
        refine V_getR fa_Mod_7 sk_116 rfl d_Mod_copies_17 ?_
        refine V_iload_n 2 d_Mod_copies_20 rfl rfl ?_
        refine V_iload_n 3 d_Mod_copies_21 rfl rfl ?_
        refine V_iadd fE v3E (by omega) d_Mod_copies_22 (fun z10 z10e z10E => ?_)
        refine N_iald sk_117 z10E (by omega) d_Mod_copies_23 (fun z11 z11Z z11E z11e => ?_)
        refine N_iast sk_117 z9E (by omega) d_Mod_copies_24 (fun h12 eh12 => ?_)
        have hI13 : Inv h12 := inv_st Ih4 eh12 (Or.inl rfl) z11E (stOk_of Ih4 (Or.inl rfl) z11E z11e (by omega))
        have f14 : fr S_Mod_copiesX h h12 := fr_put Fh4 eh12 rfl
        obtain ⟨z15, z15E, z15e⟩ : ∃ y : Int32, y.toInt = v3Z + 1 ∧ y = v3 + Int32.ofInt 1 := ⟨_, ti_add v3E (by decide) (by omega), rfl⟩
        refine V_iinc 3 [some (.ref 116), some (.int t), some (.int f), some (.int z15)] d_Mod_copies_25 rfl z15e.symm (by decide) rfl rfl ?_
        refine V_goto 2 d_Mod_copies_28 (by decide) ?_
        exact ihL1 z15 ((v3Z + 1)) h12 z15E hI13 f14 (by omega) (mcl_s (by assumption) (by omega) hy0 hy1 eh12 (by assumption)) (by omega)
  exact L1 (Int.toNat ((144 - 0 : Int) + 1)) 0 0 h tc_0 hI f0 (by omega) mcl_0 (by omega)
def S_Rod_keepX : List (Nat × Option Nat) := [(34, some 3), (34, some 4), (35, none), (36, none), (37, none), (38, none), (39, none), (40, none), (41, some 4), (42, none), (43, none), (44, none), (45, none), (46, some 4), (47, none), (48, none), (49, none), (50, none), (51, some 3), (51, some 4), (52, none), (53, none), (54, none), (55, none), (56, none), (57, none), (58, some 4), (59, none), (60, none), (61, none), (62, none), (63, some 4), (64, none), (65, none), (66, none), (67, none), (87, none)]
abbrev q_Rod_keepX (h : Hp) (k : Int32) (kZ : Int) : Option Value → Hp → Prop := pInt (fun r h' => Inv h' ∧ fr S_Rod_keepX h h' ∧ (kZ = 0 ∧ KP h h' 34 51 0 ∧ FQ (h.1 87 0) r ∨ kZ = 1 ∧ KP h h' 51 34 1 ∧ FQ (h.1 87 1) r ∨ (kZ < 0 ∨ 1 < kZ) ∧ h' = h ∧ r.toInt = -1))
set_option maxRecDepth 100000 in
theorem c_Rod_keepX (h : Hp) (hI : Inv h) (k : Int32) (kZ : Int) (kE : k.toInt = kZ) : Ct y_Rod_keep b_Rod_keep 3 (some .int) 3 102 [.ref 85, .int k] h (q_Rod_keepX h k kZ) := by
  refine ct_ow R_Rod [some (.ref 85), some (.int k), none] rfl (by decide) rfl (Nat.le_of_ble_eq_true rfl) ?_
  have f0 : fr S_Rod_keepX h h := fr_rf
  refine V_iload_n 1 d_Rod_keep_0 rfl rfl ?_
  refine V_if_lt 9 kE d_Rod_keep_1 (by decide) (fun c1 => ?_) (fun c1 => ?_)
  ·
    refine V_iconst (-1) d_Rod_keep_9 (by decide) ?_
    exact V_iret rfl d_Rod_keep_10 ⟨(-1), rfl, ⟨hI, f0, (Or.inr (Or.inr ⟨by omega, rfl, tc_m1⟩))⟩⟩
  ·
    refine V_iload_n 1 d_Rod_keep_4 rfl rfl ?_
    refine V_iconst 2 d_Rod_keep_5 (by decide) ?_
    refine V_icmp_lt 11 kE tc_2 d_Rod_keep_6 (by decide) (fun c2 => ?_) (fun c2 => ?_)
    ·
      refine V_aload_n 0 d_Rod_keep_11 rfl rfl ?_
      refine V_getR fa_Rod_23 sk_85 rfl d_Rod_keep_12 ?_
      refine V_iload_n 1 d_Rod_keep_15 rfl rfl ?_
      refine N_zald sk_87 kE (by omega) d_Rod_keep_16 (fun z3 z3Z z3E z3e => ?_)
      refine N_callSI [.int z3] [] cs_Rod_147 d_Rod_keep_17 rfl (Nat.le_of_ble_eq_true rfl) (by decide) (by decide) (c_Rod_oneIf h z3 z3Z z3E) (fun z4 h5 z4Z z4E p6 => ?_)
      obtain ⟨eh5, p6⟩ := p6
      subst eh5
      refine V_istore_n 2 [some (.ref 85), some (.int k), some (.int z4)] d_Rod_keep_20 rfl (by decide) rfl rfl ?_
      refine V_aload_n 0 d_Rod_keep_21 rfl rfl ?_
      refine V_getR fa_Rod_19 sk_85 rfl d_Rod_keep_22 ?_
      refine V_iload_n 1 d_Rod_keep_25 rfl rfl ?_
      rcases (by omega : kZ = 0 ∨ kZ = 1) with c7 | c7
      ·
        refine V_aald (r := 34) sk_86 (by decide) kE (by omega) (by rw [c7]; rfl) d_Rod_keep_26 ?_
        refine V_aload_n 0 d_Rod_keep_27 rfl rfl ?_
        refine V_getR fa_Rod_12 sk_85 rfl d_Rod_keep_28 ?_
        obtain ⟨z8, z8Z, z8E, z8e⟩ : ∃ (y : Int32) (Y : Int), y.toInt = Y ∧ y = h.1 0 3 := ⟨_, _, rfl, rfl⟩
        obtain ⟨z9, z9Z, z9E, z9e⟩ : ∃ (y : Int32) (Y : Int), y.toInt = Y ∧ y = h.1 0 4 := ⟨_, _, rfl, rfl⟩
        refine N_callVV [.ref 0] [] cv_Rod_84 sk_34 rfl d_Rod_keep_31 rfl (Nat.le_of_ble_eq_true rfl) (by decide) (by decide) (c_County_copyX_2_0 h hI z8 z8Z z8E z8e.symm z9 z9Z z9E z9e.symm) (fun h11 p12 => ?_)
        obtain ⟨hI13, fh11, p12⟩ := p12
        have f14 : fr S_Rod_keepX h h11 := fr_call f0 fh11 rfl
        refine V_aload_n 0 d_Rod_keep_34 rfl rfl ?_
        refine V_getR fa_Rod_23 sk_85 rfl d_Rod_keep_35 ?_
        refine V_iload_n 1 d_Rod_keep_38 rfl rfl ?_
        refine V_iconst 1 d_Rod_keep_39 (by decide) ?_
        refine N_zast sk_87 kE (by omega) d_Rod_keep_40 (fun h15 eh15 => ?_)
        have hI16 : Inv h15 := inv_full hI13 eh15 rfl
        have f17 : fr S_Rod_keepX h h15 := fr_put f14 eh15 rfl
        refine V_iload_n 2 d_Rod_keep_41 rfl rfl ?_
        exact V_iret rfl d_Rod_keep_42 ⟨z4, rfl, ⟨hI16, f17, (Or.inl ⟨by omega, KP_of p12 fh11 rfl rfl (by decide) eh15 (by decide) (by omega), FQ_of z3e (by omega) z3E p6⟩)⟩⟩
      ·
        refine V_aald (r := 51) sk_86 (by decide) kE (by omega) (by rw [c7]; rfl) d_Rod_keep_26 ?_
        refine V_aload_n 0 d_Rod_keep_27 rfl rfl ?_
        refine V_getR fa_Rod_12 sk_85 rfl d_Rod_keep_28 ?_
        obtain ⟨z18, z18Z, z18E, z18e⟩ : ∃ (y : Int32) (Y : Int), y.toInt = Y ∧ y = h.1 0 3 := ⟨_, _, rfl, rfl⟩
        obtain ⟨z19, z19Z, z19E, z19e⟩ : ∃ (y : Int32) (Y : Int), y.toInt = Y ∧ y = h.1 0 4 := ⟨_, _, rfl, rfl⟩
        refine N_callVV [.ref 0] [] cv_Rod_84 sk_51 rfl d_Rod_keep_31 rfl (Nat.le_of_ble_eq_true rfl) (by decide) (by decide) (c_County_copyX_3_0 h hI z18 z18Z z18E z18e.symm z19 z19Z z19E z19e.symm) (fun h21 p22 => ?_)
        obtain ⟨hI23, fh21, p22⟩ := p22
        have f24 : fr S_Rod_keepX h h21 := fr_call f0 fh21 rfl
        refine V_aload_n 0 d_Rod_keep_34 rfl rfl ?_
        refine V_getR fa_Rod_23 sk_85 rfl d_Rod_keep_35 ?_
        refine V_iload_n 1 d_Rod_keep_38 rfl rfl ?_
        refine V_iconst 1 d_Rod_keep_39 (by decide) ?_
        refine N_zast sk_87 kE (by omega) d_Rod_keep_40 (fun h25 eh25 => ?_)
        have hI26 : Inv h25 := inv_full hI23 eh25 rfl
        have f27 : fr S_Rod_keepX h h25 := fr_put f24 eh25 rfl
        refine V_iload_n 2 d_Rod_keep_41 rfl rfl ?_
        exact V_iret rfl d_Rod_keep_42 ⟨z4, rfl, ⟨hI26, f27, (Or.inr (Or.inl ⟨by omega, KP_of p22 fh21 rfl rfl (by decide) eh25 (by decide) (by omega), FQ_of z3e (by omega) z3E p6⟩))⟩⟩
    ·
      refine V_iconst (-1) d_Rod_keep_9 (by decide) ?_
      exact V_iret rfl d_Rod_keep_10 ⟨(-1), rfl, ⟨hI, f0, (Or.inr (Or.inr ⟨by omega, rfl, tc_m1⟩))⟩⟩
def S_Mod_keepX : List (Nat × Option Nat) := [(117, none), (118, none)]
abbrev q_Mod_keepX (h : Hp) (k : Int32) (kZ : Int) : Option Value → Hp → Prop := pInt (fun r h' => Inv h' ∧ fr S_Mod_keepX h h' ∧ (kZ = 0 ∧ MKP h h' 144 0 ∧ FQ (h.1 118 0) r ∨ kZ = 1 ∧ MKP h h' 288 1 ∧ FQ (h.1 118 1) r ∨ (kZ < 0 ∨ 1 < kZ) ∧ h' = h ∧ r.toInt = -1))
set_option maxRecDepth 100000 in
theorem c_Mod_keepX (h : Hp) (hI : Inv h) (k : Int32) (kZ : Int) (kE : k.toInt = kZ) : Ct y_Mod_keep b_Mod_keep 3 (some .int) 1 25 [.ref 116, .int k] h (q_Mod_keepX h k kZ) := by
  refine ct_ow R_Mod [some (.ref 116), some (.int k), none] rfl (by decide) rfl (Nat.le_of_ble_eq_true rfl) ?_
  have f0 : fr S_Mod_keepX h h := fr_rf
  refine V_iload_n 1 d_Mod_keep_0 rfl rfl ?_
  refine V_i2l d_Mod_keep_1 (fun z1 z1e z1E => ?_)
  have z1F : z1.toInt = kZ := z1E.trans kE
  refine V_lconst 0 d_Mod_keep_2 (by decide) ?_
  refine V_lconst 1 d_Mod_keep_3 (by decide) ?_
  refine N_callSI [.long z1, .long 0, .long 1] [] cs_Mod_95 d_Mod_keep_4 rfl (Nat.le_of_ble_eq_true rfl) (by decide) (by decide) (c_Mod_in h z1 kZ z1F 0 0 tl_0 1 1 tl_1) (fun z2 h3 z2Z z2E p4 => ?_)
  obtain ⟨eh3, p4⟩ := p4
  subst eh3
  refine V_if_ne 12 z2E d_Mod_keep_7 (by decide) (fun c5 => ?_) (fun c5 => ?_)
  ·
    rcases (by omega : kZ = 0 ∨ kZ = 1) with c6 | c6
    ·
      refine V_aload_n 0 d_Mod_keep_12 rfl rfl ?_
      refine V_getR fa_Mod_13 sk_116 rfl d_Mod_keep_13 ?_
      refine V_iload_n 1 d_Mod_keep_16 rfl rfl ?_
      refine N_zald sk_118 kE (by omega) d_Mod_keep_17 (fun z7 z7Z z7E z7e => ?_)
      refine N_callSI [.int z7] [] cs_Mod_196 d_Mod_keep_18 rfl (Nat.le_of_ble_eq_true rfl) (by decide) (by decide) (c_Mod_flag h z7 z7Z z7E) (fun z8 h9 z8Z z8E p10 => ?_)
      obtain ⟨eh9, p10⟩ := p10
      subst eh9
      refine V_istore_n 2 [some (.ref 116), some (.int k), some (.int z8)] d_Mod_keep_21 rfl (by decide) rfl rfl ?_
      refine V_aload_n 0 d_Mod_keep_22 rfl rfl ?_
      refine V_getR fa_Mod_13 sk_116 rfl d_Mod_keep_23 ?_
      refine V_iload_n 1 d_Mod_keep_26 rfl rfl ?_
      refine V_iconst 1 d_Mod_keep_27 (by decide) ?_
      refine N_zast sk_118 kE (by omega) d_Mod_keep_28 (fun h11 eh11 => ?_)
      have hI12 : Inv h11 := inv_full hI eh11 rfl
      have f13 : fr S_Mod_keepX h h11 := fr_put f0 eh11 rfl
      refine V_aload_n 0 d_Mod_keep_29 rfl rfl ?_
      refine V_sipush 144 d_Mod_keep_30 (by decide) ?_
      refine V_iload_n 1 d_Mod_keep_33 rfl rfl ?_
      refine V_iconst 1 d_Mod_keep_34 (by decide) ?_
      refine V_iadd kE tc_1 (by omega) d_Mod_keep_35 (fun z14 z14e z14E => ?_)
      refine V_imul tc_144 z14E (by omega) d_Mod_keep_36 (fun z15 z15e z15E => ?_)
      refine V_iconst 0 d_Mod_keep_37 (by decide) ?_
      refine N_callVV [.int z15, .int 0] [] cv_Mod_317 sk_116 rfl d_Mod_keep_38 rfl (Nat.le_of_ble_eq_true rfl) (by decide) (by decide) (c_Mod_copiesX h11 hI12 z15 ((144 * (kZ + 1))) z15E 0 0 tc_0 (by omega) (by omega)) (fun h17 p18 => ?_)
      obtain ⟨hI19, fh17, p18⟩ := p18
      have f20 : fr S_Mod_keepX h h17 := fr_call f13 fh17 rfl
      refine V_iload_n 2 d_Mod_keep_41 rfl rfl ?_
      exact V_iret rfl d_Mod_keep_42 ⟨z8, rfl, ⟨hI19, f20, (Or.inl ⟨by omega, MKP_of eh11 (by decide) (by omega) p18 (by omega) fh17 rfl, FQ_of z7e (by omega) z7E p10⟩)⟩⟩
    ·
      refine V_aload_n 0 d_Mod_keep_12 rfl rfl ?_
      refine V_getR fa_Mod_13 sk_116 rfl d_Mod_keep_13 ?_
      refine V_iload_n 1 d_Mod_keep_16 rfl rfl ?_
      refine N_zald sk_118 kE (by omega) d_Mod_keep_17 (fun z21 z21Z z21E z21e => ?_)
      refine N_callSI [.int z21] [] cs_Mod_196 d_Mod_keep_18 rfl (Nat.le_of_ble_eq_true rfl) (by decide) (by decide) (c_Mod_flag h z21 z21Z z21E) (fun z22 h23 z22Z z22E p24 => ?_)
      obtain ⟨eh23, p24⟩ := p24
      subst eh23
      refine V_istore_n 2 [some (.ref 116), some (.int k), some (.int z22)] d_Mod_keep_21 rfl (by decide) rfl rfl ?_
      refine V_aload_n 0 d_Mod_keep_22 rfl rfl ?_
      refine V_getR fa_Mod_13 sk_116 rfl d_Mod_keep_23 ?_
      refine V_iload_n 1 d_Mod_keep_26 rfl rfl ?_
      refine V_iconst 1 d_Mod_keep_27 (by decide) ?_
      refine N_zast sk_118 kE (by omega) d_Mod_keep_28 (fun h25 eh25 => ?_)
      have hI26 : Inv h25 := inv_full hI eh25 rfl
      have f27 : fr S_Mod_keepX h h25 := fr_put f0 eh25 rfl
      refine V_aload_n 0 d_Mod_keep_29 rfl rfl ?_
      refine V_sipush 144 d_Mod_keep_30 (by decide) ?_
      refine V_iload_n 1 d_Mod_keep_33 rfl rfl ?_
      refine V_iconst 1 d_Mod_keep_34 (by decide) ?_
      refine V_iadd kE tc_1 (by omega) d_Mod_keep_35 (fun z28 z28e z28E => ?_)
      refine V_imul tc_144 z28E (by omega) d_Mod_keep_36 (fun z29 z29e z29E => ?_)
      refine V_iconst 0 d_Mod_keep_37 (by decide) ?_
      refine N_callVV [.int z29, .int 0] [] cv_Mod_317 sk_116 rfl d_Mod_keep_38 rfl (Nat.le_of_ble_eq_true rfl) (by decide) (by decide) (c_Mod_copiesX h25 hI26 z29 ((144 * (kZ + 1))) z29E 0 0 tc_0 (by omega) (by omega)) (fun h31 p32 => ?_)
      obtain ⟨hI33, fh31, p32⟩ := p32
      have f34 : fr S_Mod_keepX h h31 := fr_call f27 fh31 rfl
      refine V_iload_n 2 d_Mod_keep_41 rfl rfl ?_
      exact V_iret rfl d_Mod_keep_42 ⟨z22, rfl, ⟨hI33, f34, (Or.inr (Or.inl ⟨by omega, MKP_of eh25 (by decide) (by omega) p32 (by omega) fh31 rfl, FQ_of z21e (by omega) z21E p24⟩))⟩⟩
  ·
    refine V_iconst (-1) d_Mod_keep_10 (by decide) ?_
    exact V_iret rfl d_Mod_keep_11 ⟨(-1), rfl, ⟨hI, f0, (Or.inr (Or.inr ⟨by omega, rfl, tc_m1⟩))⟩⟩
def S_Rod_backX : List (Nat × Option Nat) := [(0, some 3), (0, some 4), (1, none), (2, none), (3, none), (4, none), (5, none), (6, none), (7, some 4), (8, none), (9, none), (10, none), (11, none), (12, some 4), (13, none), (14, none), (15, none), (16, none)]
abbrev q_Rod_backX (h : Hp) (k : Int32) (kZ : Int) : Option Value → Hp → Prop := pInt (fun r h' => Inv h' ∧ fr S_Rod_backX h h' ∧ (kZ = 0 ∧ (h.1 87 0).toInt ≠ 0 ∧ cpy h h' 0 34 ∨ kZ = 1 ∧ (h.1 87 1).toInt ≠ 0 ∧ cpy h h' 0 51 ∨ (kZ = 0 ∧ (h.1 87 0).toInt = 0 ∨ kZ = 1 ∧ (h.1 87 1).toInt = 0 ∨ kZ < 0 ∨ 1 < kZ) ∧ h' = h))
set_option maxRecDepth 100000 in
theorem c_Rod_backX (h : Hp) (hI : Inv h) (k : Int32) (kZ : Int) (kE : k.toInt = kZ) : Ct y_Rod_back b_Rod_back 2 (some .int) 3 102 [.ref 85, .int k] h (q_Rod_backX h k kZ) := by
  refine ct_ow R_Rod [some (.ref 85), some (.int k)] rfl (by decide) rfl (Nat.le_of_ble_eq_true rfl) ?_
  have f0 : fr S_Rod_backX h h := fr_rf
  refine V_iload_n 1 d_Rod_back_0 rfl rfl ?_
  refine V_if_lt 9 kE d_Rod_back_1 (by decide) (fun c1 => ?_) (fun c1 => ?_)
  ·
    refine V_iconst (-1) d_Rod_back_9 (by decide) ?_
    exact V_iret rfl d_Rod_back_10 ⟨(-1), rfl, ⟨hI, f0, (Or.inr (Or.inr ⟨by omega, rfl⟩))⟩⟩
  ·
    refine V_iload_n 1 d_Rod_back_4 rfl rfl ?_
    refine V_iconst 2 d_Rod_back_5 (by decide) ?_
    refine V_icmp_lt 11 kE tc_2 d_Rod_back_6 (by decide) (fun c2 => ?_) (fun c2 => ?_)
    ·
      rcases (by omega : kZ = 0 ∨ kZ = 1) with c3 | c3
      ·
        refine V_aload_n 0 d_Rod_back_11 rfl rfl ?_
        refine V_getR fa_Rod_23 sk_85 rfl d_Rod_back_12 ?_
        refine V_iload_n 1 d_Rod_back_15 rfl rfl ?_
        refine N_zald sk_87 kE (by omega) d_Rod_back_16 (fun z4 z4Z z4E z4e => ?_)
        refine V_if_ne 23 z4E d_Rod_back_17 (by decide) (fun c5 => ?_) (fun c5 => ?_)
        ·
          refine V_aload_n 0 d_Rod_back_23 rfl rfl ?_
          refine V_getR fa_Rod_12 sk_85 rfl d_Rod_back_24 ?_
          refine V_aload_n 0 d_Rod_back_27 rfl rfl ?_
          refine V_getR fa_Rod_19 sk_85 rfl d_Rod_back_28 ?_
          refine V_iload_n 1 d_Rod_back_31 rfl rfl ?_
          rcases (by omega : kZ = 0 ∨ kZ = 1) with c6 | c6
          ·
            refine V_aald (r := 34) sk_86 (by decide) kE (by omega) (by rw [c6]; rfl) d_Rod_back_32 ?_
            obtain ⟨z7, z7Z, z7E, z7e⟩ : ∃ (y : Int32) (Y : Int), y.toInt = Y ∧ y = h.1 34 3 := ⟨_, _, rfl, rfl⟩
            obtain ⟨z8, z8Z, z8E, z8e⟩ : ∃ (y : Int32) (Y : Int), y.toInt = Y ∧ y = h.1 34 4 := ⟨_, _, rfl, rfl⟩
            refine N_callVV [.ref 34] [] cv_Rod_84 sk_0 rfl d_Rod_back_33 rfl (Nat.le_of_ble_eq_true rfl) (by decide) (by decide) (c_County_copyX_0_2 h hI z7 z7Z z7E z7e.symm z8 z8Z z8E z8e.symm) (fun h10 p11 => ?_)
            obtain ⟨hI12, fh10, p11⟩ := p11
            have f13 : fr S_Rod_backX h h10 := fr_call f0 fh10 rfl
            refine V_aload_n 0 d_Rod_back_36 rfl rfl ?_
            refine V_getR fa_Rod_12 sk_85 rfl d_Rod_back_37 ?_
            refine V_getR fa_Rod_91 sk_0 rfl d_Rod_back_40 ?_
            obtain ⟨z14, z14Z, z14E, z14e⟩ : ∃ (y : Int32) (Y : Int), y.toInt = Y ∧ y = h10.1 1 0 := ⟨_, _, rfl, rfl⟩
            have g15 : 2 ≤ z14Z ∧ z14Z ≤ 4 := inv_at hI12 z14E z14e rfl
            obtain ⟨z16, z16Z, z16E, z16e⟩ : ∃ (y : Int32) (Y : Int), y.toInt = Y ∧ y = h10.1 1 1 := ⟨_, _, rfl, rfl⟩
            have g17 : 2 ≤ z16Z ∧ z16Z ≤ 4 := inv_at hI12 z16E z16e rfl
            refine N_callVI [] [] cv_Rod_168 sk_1 rfl d_Rod_back_43 rfl (Nat.le_of_ble_eq_true rfl) (by decide) (by decide) (c_Land_wells_0 h10 hI12 z14 z14Z z14E z14e.symm z16 z16Z z16E z16e.symm) (fun z18 h19 z18Z z18E p20 => ?_)
            subst p20
            exact V_iret rfl d_Rod_back_46 ⟨z18, rfl, ⟨hI12, f13, (Or.inl ⟨by omega, (by rw [show h.1 87 0 = z4 from by rw [z4e]; exact congrArg (h.1 87) (by omega), z4E]; omega), p11⟩)⟩⟩
          ·
            refine V_aald (r := 51) sk_86 (by decide) kE (by omega) (by rw [c6]; rfl) d_Rod_back_32 ?_
            obtain ⟨z21, z21Z, z21E, z21e⟩ : ∃ (y : Int32) (Y : Int), y.toInt = Y ∧ y = h.1 51 3 := ⟨_, _, rfl, rfl⟩
            obtain ⟨z22, z22Z, z22E, z22e⟩ : ∃ (y : Int32) (Y : Int), y.toInt = Y ∧ y = h.1 51 4 := ⟨_, _, rfl, rfl⟩
            refine N_callVV [.ref 51] [] cv_Rod_84 sk_0 rfl d_Rod_back_33 rfl (Nat.le_of_ble_eq_true rfl) (by decide) (by decide) (c_County_copyX_0_3 h hI z21 z21Z z21E z21e.symm z22 z22Z z22E z22e.symm) (fun h24 p25 => ?_)
            obtain ⟨hI26, fh24, p25⟩ := p25
            have f27 : fr S_Rod_backX h h24 := fr_call f0 fh24 rfl
            refine V_aload_n 0 d_Rod_back_36 rfl rfl ?_
            refine V_getR fa_Rod_12 sk_85 rfl d_Rod_back_37 ?_
            refine V_getR fa_Rod_91 sk_0 rfl d_Rod_back_40 ?_
            obtain ⟨z28, z28Z, z28E, z28e⟩ : ∃ (y : Int32) (Y : Int), y.toInt = Y ∧ y = h24.1 1 0 := ⟨_, _, rfl, rfl⟩
            have g29 : 2 ≤ z28Z ∧ z28Z ≤ 4 := inv_at hI26 z28E z28e rfl
            obtain ⟨z30, z30Z, z30E, z30e⟩ : ∃ (y : Int32) (Y : Int), y.toInt = Y ∧ y = h24.1 1 1 := ⟨_, _, rfl, rfl⟩
            have g31 : 2 ≤ z30Z ∧ z30Z ≤ 4 := inv_at hI26 z30E z30e rfl
            refine N_callVI [] [] cv_Rod_168 sk_1 rfl d_Rod_back_43 rfl (Nat.le_of_ble_eq_true rfl) (by decide) (by decide) (c_Land_wells_0 h24 hI26 z28 z28Z z28E z28e.symm z30 z30Z z30E z30e.symm) (fun z32 h33 z32Z z32E p34 => ?_)
            subst p34
            exact V_iret rfl d_Rod_back_46 ⟨z32, rfl, ⟨hI26, f27, (by exfalso; omega)⟩⟩
        ·
          refine V_bipush (-2) d_Rod_back_20 (by decide) ?_
          exact V_iret rfl d_Rod_back_22 ⟨(-2), rfl, ⟨hI, f0, (Or.inr (Or.inr ⟨Or.inl ⟨by omega, (by rw [show h.1 87 0 = z4 from by rw [z4e]; exact congrArg (h.1 87) (by omega), z4E]; omega)⟩, rfl⟩))⟩⟩
      ·
        refine V_aload_n 0 d_Rod_back_11 rfl rfl ?_
        refine V_getR fa_Rod_23 sk_85 rfl d_Rod_back_12 ?_
        refine V_iload_n 1 d_Rod_back_15 rfl rfl ?_
        refine N_zald sk_87 kE (by omega) d_Rod_back_16 (fun z35 z35Z z35E z35e => ?_)
        refine V_if_ne 23 z35E d_Rod_back_17 (by decide) (fun c36 => ?_) (fun c36 => ?_)
        ·
          refine V_aload_n 0 d_Rod_back_23 rfl rfl ?_
          refine V_getR fa_Rod_12 sk_85 rfl d_Rod_back_24 ?_
          refine V_aload_n 0 d_Rod_back_27 rfl rfl ?_
          refine V_getR fa_Rod_19 sk_85 rfl d_Rod_back_28 ?_
          refine V_iload_n 1 d_Rod_back_31 rfl rfl ?_
          rcases (by omega : kZ = 0 ∨ kZ = 1) with c37 | c37
          ·
            refine V_aald (r := 34) sk_86 (by decide) kE (by omega) (by rw [c37]; rfl) d_Rod_back_32 ?_
            obtain ⟨z38, z38Z, z38E, z38e⟩ : ∃ (y : Int32) (Y : Int), y.toInt = Y ∧ y = h.1 34 3 := ⟨_, _, rfl, rfl⟩
            obtain ⟨z39, z39Z, z39E, z39e⟩ : ∃ (y : Int32) (Y : Int), y.toInt = Y ∧ y = h.1 34 4 := ⟨_, _, rfl, rfl⟩
            refine N_callVV [.ref 34] [] cv_Rod_84 sk_0 rfl d_Rod_back_33 rfl (Nat.le_of_ble_eq_true rfl) (by decide) (by decide) (c_County_copyX_0_2 h hI z38 z38Z z38E z38e.symm z39 z39Z z39E z39e.symm) (fun h41 p42 => ?_)
            obtain ⟨hI43, fh41, p42⟩ := p42
            have f44 : fr S_Rod_backX h h41 := fr_call f0 fh41 rfl
            refine V_aload_n 0 d_Rod_back_36 rfl rfl ?_
            refine V_getR fa_Rod_12 sk_85 rfl d_Rod_back_37 ?_
            refine V_getR fa_Rod_91 sk_0 rfl d_Rod_back_40 ?_
            obtain ⟨z45, z45Z, z45E, z45e⟩ : ∃ (y : Int32) (Y : Int), y.toInt = Y ∧ y = h41.1 1 0 := ⟨_, _, rfl, rfl⟩
            have g46 : 2 ≤ z45Z ∧ z45Z ≤ 4 := inv_at hI43 z45E z45e rfl
            obtain ⟨z47, z47Z, z47E, z47e⟩ : ∃ (y : Int32) (Y : Int), y.toInt = Y ∧ y = h41.1 1 1 := ⟨_, _, rfl, rfl⟩
            have g48 : 2 ≤ z47Z ∧ z47Z ≤ 4 := inv_at hI43 z47E z47e rfl
            refine N_callVI [] [] cv_Rod_168 sk_1 rfl d_Rod_back_43 rfl (Nat.le_of_ble_eq_true rfl) (by decide) (by decide) (c_Land_wells_0 h41 hI43 z45 z45Z z45E z45e.symm z47 z47Z z47E z47e.symm) (fun z49 h50 z49Z z49E p51 => ?_)
            subst p51
            exact V_iret rfl d_Rod_back_46 ⟨z49, rfl, ⟨hI43, f44, (by exfalso; omega)⟩⟩
          ·
            refine V_aald (r := 51) sk_86 (by decide) kE (by omega) (by rw [c37]; rfl) d_Rod_back_32 ?_
            obtain ⟨z52, z52Z, z52E, z52e⟩ : ∃ (y : Int32) (Y : Int), y.toInt = Y ∧ y = h.1 51 3 := ⟨_, _, rfl, rfl⟩
            obtain ⟨z53, z53Z, z53E, z53e⟩ : ∃ (y : Int32) (Y : Int), y.toInt = Y ∧ y = h.1 51 4 := ⟨_, _, rfl, rfl⟩
            refine N_callVV [.ref 51] [] cv_Rod_84 sk_0 rfl d_Rod_back_33 rfl (Nat.le_of_ble_eq_true rfl) (by decide) (by decide) (c_County_copyX_0_3 h hI z52 z52Z z52E z52e.symm z53 z53Z z53E z53e.symm) (fun h55 p56 => ?_)
            obtain ⟨hI57, fh55, p56⟩ := p56
            have f58 : fr S_Rod_backX h h55 := fr_call f0 fh55 rfl
            refine V_aload_n 0 d_Rod_back_36 rfl rfl ?_
            refine V_getR fa_Rod_12 sk_85 rfl d_Rod_back_37 ?_
            refine V_getR fa_Rod_91 sk_0 rfl d_Rod_back_40 ?_
            obtain ⟨z59, z59Z, z59E, z59e⟩ : ∃ (y : Int32) (Y : Int), y.toInt = Y ∧ y = h55.1 1 0 := ⟨_, _, rfl, rfl⟩
            have g60 : 2 ≤ z59Z ∧ z59Z ≤ 4 := inv_at hI57 z59E z59e rfl
            obtain ⟨z61, z61Z, z61E, z61e⟩ : ∃ (y : Int32) (Y : Int), y.toInt = Y ∧ y = h55.1 1 1 := ⟨_, _, rfl, rfl⟩
            have g62 : 2 ≤ z61Z ∧ z61Z ≤ 4 := inv_at hI57 z61E z61e rfl
            refine N_callVI [] [] cv_Rod_168 sk_1 rfl d_Rod_back_43 rfl (Nat.le_of_ble_eq_true rfl) (by decide) (by decide) (c_Land_wells_0 h55 hI57 z59 z59Z z59E z59e.symm z61 z61Z z61E z61e.symm) (fun z63 h64 z63Z z63E p65 => ?_)
            subst p65
            exact V_iret rfl d_Rod_back_46 ⟨z63, rfl, ⟨hI57, f58, (Or.inr (Or.inl ⟨by omega, (by rw [show h.1 87 1 = z35 from by rw [z35e]; exact congrArg (h.1 87) (by omega), z35E]; omega), p56⟩))⟩⟩
        ·
          refine V_bipush (-2) d_Rod_back_20 (by decide) ?_
          exact V_iret rfl d_Rod_back_22 ⟨(-2), rfl, ⟨hI, f0, (Or.inr (Or.inr ⟨Or.inr (Or.inl ⟨by omega, (by rw [show h.1 87 1 = z35 from by rw [z35e]; exact congrArg (h.1 87) (by omega), z35E]; omega)⟩), rfl⟩))⟩⟩
    ·
      refine V_iconst (-1) d_Rod_back_9 (by decide) ?_
      exact V_iret rfl d_Rod_back_10 ⟨(-1), rfl, ⟨hI, f0, (Or.inr (Or.inr ⟨by omega, rfl⟩))⟩⟩
def S_Mod_backX : List (Nat × Option Nat) := [(117, none)]
abbrev q_Mod_backX (h : Hp) (k : Int32) (kZ : Int) (w : Int32) (wZ : Int) (g : Int32) (gZ : Int) : Option Value → Hp → Prop := pInt (fun r h' => Inv h' ∧ fr S_Mod_backX h h' ∧ (kZ = 0 ∧ (h.1 118 0).toInt ≠ 0 ∧ mcl h h' 0 144 144 ∨ kZ = 1 ∧ (h.1 118 1).toInt ≠ 0 ∧ mcl h h' 0 288 144 ∨ (kZ = 0 ∧ (h.1 118 0).toInt = 0 ∨ kZ = 1 ∧ (h.1 118 1).toInt = 0 ∨ kZ < 0 ∨ 1 < kZ) ∧ h' = h))
set_option maxRecDepth 100000 in
theorem c_Mod_backX (h : Hp) (hI : Inv h) (k : Int32) (kZ : Int) (kE : k.toInt = kZ) (w : Int32) (wZ : Int) (wE : w.toInt = wZ) (wK : h.1 116 2 = w) (g : Int32) (gZ : Int) (gE : g.toInt = gZ) (gK : h.1 116 3 = g) : Ct y_Mod_back b_Mod_back 2 (some .int) 3 64 [.ref 116, .int k] h (q_Mod_backX h k kZ w wZ g gZ) := by
  refine ct_ow R_Mod [some (.ref 116), some (.int k)] rfl (by decide) rfl (Nat.le_of_ble_eq_true rfl) ?_
  have f0 : fr S_Mod_backX h h := fr_rf
  have g1 : 2 ≤ wZ ∧ wZ ≤ 4 := inv_at hI wE wK.symm rfl
  have g2 : 2 ≤ gZ ∧ gZ ≤ 4 := inv_at hI gE gK.symm rfl
  refine V_iload_n 1 d_Mod_back_0 rfl rfl ?_
  refine V_i2l d_Mod_back_1 (fun z3 z3e z3E => ?_)
  have z3F : z3.toInt = kZ := z3E.trans kE
  refine V_lconst 0 d_Mod_back_2 (by decide) ?_
  refine V_lconst 1 d_Mod_back_3 (by decide) ?_
  refine N_callSI [.long z3, .long 0, .long 1] [] cs_Mod_95 d_Mod_back_4 rfl (Nat.le_of_ble_eq_true rfl) (by decide) (by decide) (c_Mod_in h z3 kZ z3F 0 0 tl_0 1 1 tl_1) (fun z4 h5 z4Z z4E p6 => ?_)
  obtain ⟨eh5, p6⟩ := p6
  subst eh5
  refine V_if_ne 12 z4E d_Mod_back_7 (by decide) (fun c7 => ?_) (fun c7 => ?_)
  ·
    rcases (by omega : kZ = 0 ∨ kZ = 1) with c8 | c8
    ·
      refine V_aload_n 0 d_Mod_back_12 rfl rfl ?_
      refine V_getR fa_Mod_13 sk_116 rfl d_Mod_back_13 ?_
      refine V_iload_n 1 d_Mod_back_16 rfl rfl ?_
      refine N_zald sk_118 kE (by omega) d_Mod_back_17 (fun z9 z9Z z9E z9e => ?_)
      refine V_if_ne 24 z9E d_Mod_back_18 (by decide) (fun c10 => ?_) (fun c10 => ?_)
      ·
        refine V_aload_n 0 d_Mod_back_24 rfl rfl ?_
        refine V_iconst 0 d_Mod_back_25 (by decide) ?_
        refine V_sipush 144 d_Mod_back_26 (by decide) ?_
        refine V_iload_n 1 d_Mod_back_29 rfl rfl ?_
        refine V_iconst 1 d_Mod_back_30 (by decide) ?_
        refine V_iadd kE tc_1 (by omega) d_Mod_back_31 (fun z11 z11e z11E => ?_)
        refine V_imul tc_144 z11E (by omega) d_Mod_back_32 (fun z12 z12e z12E => ?_)
        refine N_callVV [.int 0, .int z12] [] cv_Mod_317 sk_116 rfl d_Mod_back_33 rfl (Nat.le_of_ble_eq_true rfl) (by decide) (by decide) (c_Mod_copiesX h hI 0 0 tc_0 z12 ((144 * (kZ + 1))) z12E (by omega) (by omega)) (fun h14 p15 => ?_)
        obtain ⟨hI16, fh14, p15⟩ := p15
        have f17 : fr S_Mod_backX h h14 := fr_call f0 fh14 rfl
        refine V_aload_n 0 d_Mod_back_36 rfl rfl ?_
        refine N_callVI [] [] cv_Mod_223 sk_116 rfl d_Mod_back_37 rfl (Nat.le_of_ble_eq_true rfl) (by decide) (by decide) (c_Mod_wells h14 hI16 w wZ wE (kn_call fh14 wK rfl) g gZ gE (kn_call fh14 gK rfl)) (fun z18 h19 z18Z z18E p20 => ?_)
        subst p20
        exact V_iret rfl d_Mod_back_40 ⟨z18, rfl, ⟨hI16, f17, (Or.inl ⟨by omega, (by rw [show h.1 118 0 = z9 from by rw [z9e]; exact congrArg (h.1 118) (by omega), z9E]; omega), (mcl_T (by omega) p15)⟩)⟩⟩
      ·
        refine V_bipush (-2) d_Mod_back_21 (by decide) ?_
        exact V_iret rfl d_Mod_back_23 ⟨(-2), rfl, ⟨hI, f0, (Or.inr (Or.inr ⟨Or.inl ⟨by omega, (by rw [show h.1 118 0 = z9 from by rw [z9e]; exact congrArg (h.1 118) (by omega), z9E]; omega)⟩, rfl⟩))⟩⟩
    ·
      refine V_aload_n 0 d_Mod_back_12 rfl rfl ?_
      refine V_getR fa_Mod_13 sk_116 rfl d_Mod_back_13 ?_
      refine V_iload_n 1 d_Mod_back_16 rfl rfl ?_
      refine N_zald sk_118 kE (by omega) d_Mod_back_17 (fun z21 z21Z z21E z21e => ?_)
      refine V_if_ne 24 z21E d_Mod_back_18 (by decide) (fun c22 => ?_) (fun c22 => ?_)
      ·
        refine V_aload_n 0 d_Mod_back_24 rfl rfl ?_
        refine V_iconst 0 d_Mod_back_25 (by decide) ?_
        refine V_sipush 144 d_Mod_back_26 (by decide) ?_
        refine V_iload_n 1 d_Mod_back_29 rfl rfl ?_
        refine V_iconst 1 d_Mod_back_30 (by decide) ?_
        refine V_iadd kE tc_1 (by omega) d_Mod_back_31 (fun z23 z23e z23E => ?_)
        refine V_imul tc_144 z23E (by omega) d_Mod_back_32 (fun z24 z24e z24E => ?_)
        refine N_callVV [.int 0, .int z24] [] cv_Mod_317 sk_116 rfl d_Mod_back_33 rfl (Nat.le_of_ble_eq_true rfl) (by decide) (by decide) (c_Mod_copiesX h hI 0 0 tc_0 z24 ((144 * (kZ + 1))) z24E (by omega) (by omega)) (fun h26 p27 => ?_)
        obtain ⟨hI28, fh26, p27⟩ := p27
        have f29 : fr S_Mod_backX h h26 := fr_call f0 fh26 rfl
        refine V_aload_n 0 d_Mod_back_36 rfl rfl ?_
        refine N_callVI [] [] cv_Mod_223 sk_116 rfl d_Mod_back_37 rfl (Nat.le_of_ble_eq_true rfl) (by decide) (by decide) (c_Mod_wells h26 hI28 w wZ wE (kn_call fh26 wK rfl) g gZ gE (kn_call fh26 gK rfl)) (fun z30 h31 z30Z z30E p32 => ?_)
        subst p32
        exact V_iret rfl d_Mod_back_40 ⟨z30, rfl, ⟨hI28, f29, (Or.inr (Or.inl ⟨by omega, (by rw [show h.1 118 1 = z21 from by rw [z21e]; exact congrArg (h.1 118) (by omega), z21E]; omega), (mcl_T (by omega) p27)⟩))⟩⟩
      ·
        refine V_bipush (-2) d_Mod_back_21 (by decide) ?_
        exact V_iret rfl d_Mod_back_23 ⟨(-2), rfl, ⟨hI, f0, (Or.inr (Or.inr ⟨Or.inr (Or.inl ⟨by omega, (by rw [show h.1 118 1 = z21 from by rw [z21e]; exact congrArg (h.1 118) (by omega), z21E]; omega)⟩), rfl⟩))⟩⟩
  ·
    refine V_iconst (-1) d_Mod_back_10 (by decide) ?_
    exact V_iret rfl d_Mod_back_11 ⟨(-1), rfl, ⟨hI, f0, (Or.inr (Or.inr ⟨by omega, rfl⟩))⟩⟩
