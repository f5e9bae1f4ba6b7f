def BK (K0 K1 k : Int) (r : Int32) (n : Nat) : Prop := (k = 0 ∧ K0 ≠ 0 ∨ k = 1 ∧ K1 ≠ 0) ∧ r.toInt = (n : Int) ∨ (k = 0 ∧ K0 = 0 ∨ k = 1 ∧ K1 = 0) ∧ r.toInt = -2 ∨ (k < 0 ∨ 1 < k) ∧ r.toInt = -1
def CN (a : Int) (r v2 v4 v5 v6 : Int32) (n0 n1 : Nat) (k0 k1 : Int32) (t no : Int) : Prop := a = 0 ∧ r.toInt = (n0 : Int) ∨ a = 1 ∧ r.toInt = (n1 : Int) ∨ a = 2 ∧ r = v2 ∨ (a = 3 ∧ ∃ f g : Int32, FQ k0 f ∧ FQ k1 g ∧ r = f + g) ∨ a = 4 ∧ r = v4 ∨ a = 5 ∧ (t = no ∧ r.toInt = -4 ∨ t ≠ no ∧ r = v5) ∨ a = 6 ∧ r = v6 ∨ (a < 0 ∨ 6 < a) ∧ r.toInt = -1
def S_Rod_rainW : List (Nat × Option Nat) := [(2, none)]
abbrev q_Rod_rainW (h : Hp) (v : Int32) (vZ : Int) (w : Int32) (wZ : Int) (g : Int32) (gZ : Int) : Option Value → Hp → Prop := pInt (fun r h' => Inv h' ∧ fr S_Rod_rainW h h' ∧ (((0 ≤ vZ ∧ vZ ≤ 8) ∧ rW h h' 2 v (wZ * gZ) ∨ ¬ (0 ≤ vZ ∧ vZ ≤ 8) ∧ h' = h) ∧ ((0 ≤ vZ ∧ vZ ≤ 8) ∧ r.toInt = (ct (WQ (h'.1 2) (h'.1 6) (wZ * gZ)) 32 : Nat) ∨ ¬ (0 ≤ vZ ∧ vZ ≤ 8) ∧ r.toInt = -1)))
set_option maxRecDepth 100000 in
theorem c_Rod_rainW (h : Hp) (hI : Inv h) (v : Int32) (vZ : Int) (vE : v.toInt = vZ) (w : Int32) (wZ : Int) (wE : w.toInt = wZ) (wK : h.1 1 0 = w) (g : Int32) (gZ : Int) (gE : g.toInt = gZ) (gK : h.1 1 1 = g) : Ct y_Rod_rain b_Rod_rain 2 (some .int) 3 63 [.ref 85, .int v] h (q_Rod_rainW h v vZ w wZ g gZ) := by
  refine ct_ow R_Rod [some (.ref 85), some (.int v)] rfl (by decide) rfl (Nat.le_of_ble_eq_true rfl) ?_
  have f0 : fr S_Rod_rainW h h := fr_rf
  have g1 : 2 ≤ wZ ∧ wZ ≤ 4 := inv_at hI wE wK.symm rfl
  have g2 : 2 ≤ gZ ∧ gZ ≤ 4 := inv_at hI gE gK.symm rfl
  refine V_iload_n 1 d_Rod_rain_0 rfl rfl ?_
  refine V_if_lt 10 vE d_Rod_rain_1 (by decide) (fun c3 => ?_) (fun c3 => ?_)
  ·
    refine V_iconst (-1) d_Rod_rain_10 (by decide) ?_
    exact V_iret rfl d_Rod_rain_11 ⟨(-1), rfl, ⟨hI, f0, ⟨Or.inr ⟨by (first | decide +kernel | omega), rfl⟩, Or.inr ⟨by (first | decide +kernel | omega), tc_m1⟩⟩⟩⟩
  ·
    refine V_iload_n 1 d_Rod_rain_4 rfl rfl ?_
    refine V_bipush 8 d_Rod_rain_5 (by decide) ?_
    refine V_icmp_le 12 vE tc_8 d_Rod_rain_7 (by decide) (fun c4 => ?_) (fun c4 => ?_)
    ·
      refine V_aload_n 0 d_Rod_rain_12 rfl rfl ?_
      refine V_getR fa_Rod_12 sk_85 rfl d_Rod_rain_13 ?_
      refine V_getR fa_Rod_91 sk_0 rfl d_Rod_rain_16 ?_
      refine V_iload_n 1 d_Rod_rain_19 rfl rfl ?_
      refine N_callVV [.int v] [] cv_Rod_164 sk_1 rfl d_Rod_rain_20 rfl (Nat.le_of_ble_eq_true rfl) (by decide) (by decide) (c_Land_raiseWaterX_0 h hI v vZ vE w wZ wE wK g gZ gE gK) (fun h6 p7 => ?_)
      obtain ⟨hI8, fh6, p7⟩ := p7
      have f9 : fr S_Rod_rainW h h6 := fr_call f0 fh6 rfl
      refine V_aload_n 0 d_Rod_rain_23 rfl rfl ?_
      refine V_getR fa_Rod_12 sk_85 rfl d_Rod_rain_24 ?_
      refine V_getR fa_Rod_91 sk_0 rfl d_Rod_rain_27 ?_
      refine N_callVI [] [] cv_Rod_168 sk_1 rfl d_Rod_rain_30 rfl (Nat.le_of_ble_eq_true rfl) (by decide) (by decide) (c_Land_wellsX_0 h6 hI8 w wZ wE (kn_call fh6 wK rfl) g gZ gE (kn_call fh6 gK rfl)) (fun z10 h11 z10Z z10E p12 => ?_)
      obtain ⟨eh11, p12⟩ := p12
      subst eh11
      exact V_iret rfl d_Rod_rain_33 ⟨z10, rfl, ⟨hI8, f9, ⟨Or.inl ⟨by (first | decide +kernel | omega), p7⟩, Or.inl ⟨by (first | decide +kernel | omega), p12⟩⟩⟩⟩
    ·
      refine V_iconst (-1) d_Rod_rain_10 (by decide) ?_
      exact V_iret rfl d_Rod_rain_11 ⟨(-1), rfl, ⟨hI, f0, ⟨Or.inr ⟨by (first | decide +kernel | omega), rfl⟩, Or.inr ⟨by (first | decide +kernel | omega), tc_m1⟩⟩⟩⟩
def S_Mod_rainW : List (Nat × Option Nat) := [(117, none)]
abbrev q_Mod_rainW (h : Hp) (v : Int32) (vZ : Int) (w : Int32) (wZ : Int) (g : Int32) (gZ : Int) : Option Value → Hp → Prop := pInt (fun r h' => Inv h' ∧ fr S_Mod_rainW h h' ∧ (((0 ≤ vZ ∧ vZ ≤ 8) ∧ rW h h' 117 v (wZ * gZ) ∧ (∀ j : Nat, 16 ≤ j → h'.1 117 j = h.1 117 j) ∨ ¬ (0 ≤ vZ ∧ vZ ≤ 8) ∧ h' = h) ∧ ((0 ≤ vZ ∧ vZ ≤ 8) ∧ r.toInt = (ct (WQ (fun i => h'.1 117 i) (fun i => h'.1 117 (64 + i)) (wZ * gZ)) (wZ * gZ).toNat : Nat) ∨ ¬ (0 ≤ vZ ∧ vZ ≤ 8) ∧ r.toInt = -1)))
set_option maxRecDepth 100000 in
theorem c_Mod_rainW (h : Hp) (hI : Inv h) (v : Int32) (vZ : Int) (vE : v.toInt = vZ) (w : Int32) (wZ : Int) (wE : w.toInt = wZ) (wK : h.1 116 2 = w) (g : Int32) (gZ : Int) (gE : g.toInt = gZ) (gK : h.1 116 3 = g) (hy0 : ∀ i : Nat, i < 16 → 0 ≤ (h.1 117 i).toInt) : Ct y_Mod_rain b_Mod_rain 4 (some .int) 3 64 [.ref 116, .int v] h (q_Mod_rainW h v vZ w wZ g gZ) := by
  refine ct_ow R_Mod [some (.ref 116), some (.int v), none, none] rfl (by decide) rfl (Nat.le_of_ble_eq_true rfl) ?_
  have f0 : fr S_Mod_rainW h h := fr_rf
  have g1 : 2 ≤ wZ ∧ wZ ≤ 4 := inv_at hI wE wK.symm rfl
  have g2 : 2 ≤ gZ ∧ gZ ≤ 4 := inv_at hI gE gK.symm rfl
  have m24 := mul24 (A := wZ) (B := gZ) (by (first | decide +kernel | omega)) (by (first | decide +kernel | omega))
  refine V_iload_n 1 d_Mod_rain_0 rfl rfl ?_
  refine V_i2l d_Mod_rain_1 (fun z3 z3e z3E => ?_)
  have z3F : z3.toInt = vZ := z3E.trans vE
  refine V_lconst 0 d_Mod_rain_2 (by decide) ?_
  refine V_ldc2 d_Mod_rain_3 wl_Mod_221 ?_
  refine N_callSI [.long z3, .long 0, .long 8] [] cs_Mod_95 d_Mod_rain_6 rfl (Nat.le_of_ble_eq_true rfl) (by decide) (by decide) (c_Mod_in h z3 vZ z3F 0 0 tl_0 8 8 tl_8) (fun z4 h5 z4Z z4E p6 => ?_)
  obtain ⟨eh5, p6⟩ := p6
  subst eh5
  refine V_if_ne 14 z4E d_Mod_rain_9 (by decide) (fun c7 => ?_) (fun c7 => ?_)
  ·
    refine V_iconst 0 d_Mod_rain_14 (by decide) ?_
    refine V_istore_n 2 [some (.ref 116), some (.int v), some (.int 0), none] d_Mod_rain_15 rfl (by decide) rfl rfl ?_
    have L8 : ∀ (nn : Nat) (v10 : Int32) (v10Z : Int) (h11 : Hp), v10.toInt = v10Z → Inv h11 → fr S_Mod_rainW h h11 → h11.1 116 2 = w → h11.1 116 3 = g → 0 ≤ v10Z ∧ v10Z ≤ wZ * gZ → rW h h11 117 v v10Z → (∀ j : Nat, 16 ≤ j → h11.1 117 j = h.1 117 j) → 16 - v10Z < (nn : Int) → V R_Mod b_Mod_rain 4 (some .int) 3 64 (q_Mod_rainW h v vZ w wZ g gZ) h11 16 [some (.ref 116), some (.int v), some (.int v10), none] [] := by
      intro nn
      induction nn with
      | zero => intro v10 v10Z h11 v10E Ih11 Fh11 K12 K13 q14 q15 q16 hm17; exact absurd hm17 (by (first | decide +kernel | omega))
      | succ nn ihL8 =>
        intro v10 v10Z h11 v10E Ih11 Fh11 K12 K13 q14 q15 q16 hm17
        refine V_iload_n 2 d_Mod_rain_16 rfl rfl ?_
        refine V_aload_n 0 d_Mod_rain_17 rfl rfl ?_
        refine N_callVI [] [.int v10] cv_Mod_183 sk_116 rfl d_Mod_rain_18 rfl (Nat.le_of_ble_eq_true rfl) (by decide) (by decide) (c_Mod_cellMany h11 Ih11 w wZ wE K12 g gZ gE K13) (fun z18 h19 z18Z z18E p20 => ?_)
        obtain ⟨eh19, p20⟩ := p20
        subst eh19
        refine V_icmp_ge 69 v10E z18E d_Mod_rain_21 (by decide) (fun c21 => ?_) (fun c21 => ?_)
        ·
          refine V_aload_n 0 d_Mod_rain_69 rfl rfl ?_
          refine N_callVI [] [] cv_Mod_223 sk_116 rfl d_Mod_rain_70 rfl (Nat.le_of_ble_eq_true rfl) (by decide) (by decide) (c_Mod_wellsX h11 Ih11 w wZ wE K12 g gZ gE K13) (fun z22 h23 z22Z z22E p24 => ?_)
          obtain ⟨eh23, p24⟩ := p24
          subst eh23
          exact V_iret rfl d_Mod_rain_73 ⟨z22, rfl, ⟨Ih11, Fh11, ⟨Or.inl ⟨by (first | decide +kernel | omega), (by rw [show wZ * gZ = v10Z by (first | decide +kernel | omega)]; assumption), by assumption⟩, Or.inl ⟨by (first | decide +kernel | omega), p24⟩⟩⟩⟩
        ·
          refine V_aload_n 0 d_Mod_rain_24 rfl rfl ?_
          refine V_getR fa_Mod_7 sk_116 rfl d_Mod_rain_25 ?_
          refine V_iconst 0 d_Mod_rain_28 (by decide) ?_
          refine V_iload_n 2 d_Mod_rain_29 rfl rfl ?_
          refine V_iadd tc_0 v10E (by (first | decide +kernel | omega)) d_Mod_rain_30 (fun z25 z25e z25E => ?_)
          refine N_iald sk_117 z25E (by (first | decide +kernel | omega)) d_Mod_rain_31 (fun z26 z26Z z26E z26e => ?_)
          have g27 := rM_nn hy0 (show rW h h11 117 v v10Z from by assumption) (by (first | decide +kernel | omega)) z26e z26E
          refine V_istore_n 3 [some (.ref 116), some (.int v), some (.int v10), some (.int z26)] d_Mod_rain_32 rfl (by decide) rfl rfl ?_
          refine V_aload_n 0 d_Mod_rain_33 rfl rfl ?_
          refine V_getR fa_Mod_7 sk_116 rfl d_Mod_rain_34 ?_
          refine V_iconst 0 d_Mod_rain_37 (by decide) ?_
          refine V_iload_n 2 d_Mod_rain_38 rfl rfl ?_
          refine V_iadd tc_0 v10E (by (first | decide +kernel | omega)) d_Mod_rain_39 (fun z28 z28e z28E => ?_)
          refine V_iload_n 3 d_Mod_rain_40 rfl rfl ?_
          refine V_if_ne 48 z26E d_Mod_rain_41 (by decide) (fun c29 => ?_) (fun c29 => ?_)
          ·
            refine V_iload_n 3 d_Mod_rain_48 rfl rfl ?_
            refine V_iload_n 1 d_Mod_rain_49 rfl rfl ?_
            refine N_isubw d_Mod_rain_50 (fun z30 z30Z z30E z30e => ?_)
            refine V_iconst 1 d_Mod_rain_51 (by decide) ?_
            refine V_icmp_ge 59 z30E tc_1 d_Mod_rain_52 (by decide) (fun c31 => ?_) (fun c31 => ?_)
            ·
              refine V_iload_n 3 d_Mod_rain_59 rfl rfl ?_
              refine V_iload_n 1 d_Mod_rain_60 rfl rfl ?_
              refine N_isubw d_Mod_rain_61 (fun z32 z32Z z32E z32e => ?_)
              refine N_iast sk_117 z28E (by (first | decide +kernel | omega)) d_Mod_rain_62 (fun h33 eh33 => ?_)
              have hI34 : Inv h33 := inv_full Ih11 eh33 (st_lo (by (first | decide +kernel | omega)))
              have f35 : fr S_Mod_rainW h h33 := fr_put Fh11 eh33 rfl
              obtain ⟨z36, z36E, z36e⟩ : ∃ y : Int32, y.toInt = v10Z + 1 ∧ y = v10 + Int32.ofInt 1 := ⟨_, ti_add v10E (by decide) (by (first | decide +kernel | omega)), rfl⟩
              refine V_iinc 2 [some (.ref 116), some (.int v), some (.int z36), some (.int z26)] d_Mod_rain_63 rfl z36e.symm (by decide) rfl rfl ?_
              refine V_goto 16 d_Mod_rain_66 (by decide) ?_
              refine V_drop 3 [some (.ref 116), some (.int v), some (.int z36), none] rfl ?_
              exact ihL8 z36 ((v10Z + 1)) h33 z36E hI34 f35 (kn_ne eh33 K12 (by decide)) (kn_ne eh33 K13 (by decide)) (by (first | decide +kernel | omega)) (rW_s1 (by assumption) (by (first | decide +kernel | omega)) (z26e.trans (by rw [Int.zero_add])) (rn1_m2 z26E (by (first | decide +kernel | omega)) z30e z32e z30E (by (first | decide +kernel | omega))) (show _ = pI _ 117 (v10Z).toNat _ from by rw [← Int.zero_add v10Z]; exact eh33)) (fun j hj => by rw [eh33, pI_at, if_neg (by (first | decide +kernel | omega))]; exact (show ∀ j : Nat, 16 ≤ j → h11.1 117 j = h.1 117 j from by assumption) j hj) (by (first | decide +kernel | omega))
            ·
              refine V_iconst 1 d_Mod_rain_55 (by decide) ?_
              refine V_goto 62 d_Mod_rain_56 (by decide) ?_
              refine N_iast sk_117 z28E (by (first | decide +kernel | omega)) d_Mod_rain_62 (fun h37 eh37 => ?_)
              have hI38 : Inv h37 := inv_full Ih11 eh37 (st_lo (by (first | decide +kernel | omega)))
              have f39 : fr S_Mod_rainW h h37 := fr_put Fh11 eh37 rfl
              obtain ⟨z40, z40E, z40e⟩ : ∃ y : Int32, y.toInt = v10Z + 1 ∧ y = v10 + Int32.ofInt 1 := ⟨_, ti_add v10E (by decide) (by (first | decide +kernel | omega)), rfl⟩
              refine V_iinc 2 [some (.ref 116), some (.int v), some (.int z40), some (.int z26)] d_Mod_rain_63 rfl z40e.symm (by decide) rfl rfl ?_
              refine V_goto 16 d_Mod_rain_66 (by decide) ?_
              refine V_drop 3 [some (.ref 116), some (.int v), some (.int z40), none] rfl ?_
              exact ihL8 z40 ((v10Z + 1)) h37 z40E hI38 f39 (kn_ne eh37 K12 (by decide)) (kn_ne eh37 K13 (by decide)) (by (first | decide +kernel | omega)) (rW_s1 (by assumption) (by (first | decide +kernel | omega)) (z26e.trans (by rw [Int.zero_add])) (rn1_m1 z26E (by (first | decide +kernel | omega)) z30e z30E (by (first | decide +kernel | omega))) (show _ = pI _ 117 (v10Z).toNat _ from by rw [← Int.zero_add v10Z]; exact eh37)) (fun j hj => by rw [eh37, pI_at, if_neg (by (first | decide +kernel | omega))]; exact (show ∀ j : Nat, 16 ≤ j → h11.1 117 j = h.1 117 j from by assumption) j hj) (by (first | decide +kernel | omega))
          ·
            refine V_iconst 0 d_Mod_rain_44 (by decide) ?_
            refine V_goto 62 d_Mod_rain_45 (by decide) ?_
            refine N_iast sk_117 z28E (by (first | decide +kernel | omega)) d_Mod_rain_62 (fun h41 eh41 => ?_)
            have hI42 : Inv h41 := inv_full Ih11 eh41 (st_lo (by (first | decide +kernel | omega)))
            have f43 : fr S_Mod_rainW h h41 := fr_put Fh11 eh41 rfl
            obtain ⟨z44, z44E, z44e⟩ : ∃ y : Int32, y.toInt = v10Z + 1 ∧ y = v10 + Int32.ofInt 1 := ⟨_, ti_add v10E (by decide) (by (first | decide +kernel | omega)), rfl⟩
            refine V_iinc 2 [some (.ref 116), some (.int v), some (.int z44), some (.int z26)] d_Mod_rain_63 rfl z44e.symm (by decide) rfl rfl ?_
            refine V_goto 16 d_Mod_rain_66 (by decide) ?_
            refine V_drop 3 [some (.ref 116), some (.int v), some (.int z44), none] rfl ?_
            exact ihL8 z44 ((v10Z + 1)) h41 z44E hI42 f43 (kn_ne eh41 K12 (by decide)) (kn_ne eh41 K13 (by decide)) (by (first | decide +kernel | omega)) (rW_s1 (by assumption) (by (first | decide +kernel | omega)) (z26e.trans (by rw [Int.zero_add])) (rn1_m0 (by rw [z26E]; omega)) (show _ = pI _ 117 (v10Z).toNat _ from by rw [← Int.zero_add v10Z]; exact eh41)) (fun j hj => by rw [eh41, pI_at, if_neg (by (first | decide +kernel | omega))]; exact (show ∀ j : Nat, 16 ≤ j → h11.1 117 j = h.1 117 j from by assumption) j hj) (by (first | decide +kernel | omega))
    exact L8 (Int.toNat ((16 - 0 : Int) + 1)) 0 0 h tc_0 hI f0 wK gK (by (first | decide +kernel | omega)) rW_0 (fun _ _ => rfl) (by (first | decide +kernel | omega))
  ·
    refine V_iconst (-1) d_Mod_rain_12 (by decide) ?_
    exact V_iret rfl d_Mod_rain_13 ⟨(-1), rfl, ⟨hI, f0, ⟨Or.inr ⟨by (first | decide +kernel | omega), rfl⟩, Or.inr ⟨by (first | decide +kernel | omega), tc_m1⟩⟩⟩⟩
def S_Rod_backW : List (Nat × Option Nat) := [(0, some 3), (0, some 4), (1, none), (2, none), (3, none), (4, none), (5, none), (6, none), (7, some 4), (8, none), (9, none), (10, none), (11, none), (12, some 4), (13, none), (14, none), (15, none), (16, none)]
abbrev q_Rod_backW (h : Hp) (k : Int32) (kZ : Int) : Option Value → Hp → Prop := pInt (fun r h' => Inv h' ∧ fr S_Rod_backW h h' ∧ ((kZ = 0 ∧ (h.1 87 0).toInt ≠ 0 ∧ cpy h h' 0 34 ∨ kZ = 1 ∧ (h.1 87 1).toInt ≠ 0 ∧ cpy h h' 0 51 ∨ (kZ = 0 ∧ (h.1 87 0).toInt = 0 ∨ kZ = 1 ∧ (h.1 87 1).toInt = 0 ∨ kZ < 0 ∨ 1 < kZ) ∧ h' = h) ∧ (BK (h.1 87 0).toInt (h.1 87 1).toInt kZ r (ct (WQ (h'.1 2) (h'.1 6) ((h'.1 1 0).toInt * (h'.1 1 1).toInt)) 32))))
set_option maxRecDepth 100000 in
theorem c_Rod_backW (h : Hp) (hI : Inv h) (k : Int32) (kZ : Int) (kE : k.toInt = kZ) : Ct y_Rod_back b_Rod_back 2 (some .int) 3 102 [.ref 85, .int k] h (q_Rod_backW h k kZ) := by
  refine ct_ow R_Rod [some (.ref 85), some (.int k)] rfl (by decide) rfl (Nat.le_of_ble_eq_true rfl) ?_
  have f0 : fr S_Rod_backW h h := fr_rf
  refine V_iload_n 1 d_Rod_back_0 rfl rfl ?_
  refine V_if_lt 9 kE d_Rod_back_1 (by decide) (fun c1 => ?_) (fun c1 => ?_)
  ·
    refine V_iconst (-1) d_Rod_back_9 (by decide) ?_
    exact V_iret rfl d_Rod_back_10 ⟨(-1), rfl, ⟨hI, f0, ⟨Or.inr (Or.inr ⟨by (first | decide +kernel | omega), rfl⟩), Or.inr (Or.inr ⟨by (first | decide +kernel | omega), tc_m1⟩)⟩⟩⟩
  ·
    refine V_iload_n 1 d_Rod_back_4 rfl rfl ?_
    refine V_iconst 2 d_Rod_back_5 (by decide) ?_
    refine V_icmp_lt 11 kE tc_2 d_Rod_back_6 (by decide) (fun c2 => ?_) (fun c2 => ?_)
    ·
      rcases (by (first | decide +kernel | omega) : kZ = 0 ∨ kZ = 1) with c3 | c3
      ·
        refine V_aload_n 0 d_Rod_back_11 rfl rfl ?_
        refine V_getR fa_Rod_23 sk_85 rfl d_Rod_back_12 ?_
        refine V_iload_n 1 d_Rod_back_15 rfl rfl ?_
        refine N_zald sk_87 kE (by (first | decide +kernel | omega)) d_Rod_back_16 (fun z4 z4Z z4E z4e => ?_)
        refine V_if_ne 23 z4E d_Rod_back_17 (by decide) (fun c5 => ?_) (fun c5 => ?_)
        ·
          refine V_aload_n 0 d_Rod_back_23 rfl rfl ?_
          refine V_getR fa_Rod_12 sk_85 rfl d_Rod_back_24 ?_
          refine V_aload_n 0 d_Rod_back_27 rfl rfl ?_
          refine V_getR fa_Rod_19 sk_85 rfl d_Rod_back_28 ?_
          refine V_iload_n 1 d_Rod_back_31 rfl rfl ?_
          rcases (by (first | decide +kernel | omega) : kZ = 0 ∨ kZ = 1) with c6 | c6
          ·
            refine V_aald (r := 34) sk_86 (by decide) kE (by (first | decide +kernel | omega)) (by rw [c6]; rfl) d_Rod_back_32 ?_
            obtain ⟨z7, z7Z, z7E, z7e⟩ : ∃ (y : Int32) (Y : Int), y.toInt = Y ∧ y = h.1 34 3 := ⟨_, _, rfl, rfl⟩
            obtain ⟨z8, z8Z, z8E, z8e⟩ : ∃ (y : Int32) (Y : Int), y.toInt = Y ∧ y = h.1 34 4 := ⟨_, _, rfl, rfl⟩
            refine N_callVV [.ref 34] [] cv_Rod_84 sk_0 rfl d_Rod_back_33 rfl (Nat.le_of_ble_eq_true rfl) (by decide) (by decide) (c_County_copyX_0_2 h hI z7 z7Z z7E z7e.symm z8 z8Z z8E z8e.symm) (fun h10 p11 => ?_)
            obtain ⟨hI12, fh10, p11⟩ := p11
            have f13 : fr S_Rod_backW h h10 := fr_call f0 fh10 rfl
            refine V_aload_n 0 d_Rod_back_36 rfl rfl ?_
            refine V_getR fa_Rod_12 sk_85 rfl d_Rod_back_37 ?_
            refine V_getR fa_Rod_91 sk_0 rfl d_Rod_back_40 ?_
            obtain ⟨z14, z14Z, z14E, z14e⟩ : ∃ (y : Int32) (Y : Int), y.toInt = Y ∧ y = h10.1 1 0 := ⟨_, _, rfl, rfl⟩
            have g15 : 2 ≤ z14Z ∧ z14Z ≤ 4 := inv_at hI12 z14E z14e rfl
            obtain ⟨z16, z16Z, z16E, z16e⟩ : ∃ (y : Int32) (Y : Int), y.toInt = Y ∧ y = h10.1 1 1 := ⟨_, _, rfl, rfl⟩
            have g17 : 2 ≤ z16Z ∧ z16Z ≤ 4 := inv_at hI12 z16E z16e rfl
            refine N_callVI [] [] cv_Rod_168 sk_1 rfl d_Rod_back_43 rfl (Nat.le_of_ble_eq_true rfl) (by decide) (by decide) (c_Land_wellsX_0 h10 hI12 z14 z14Z z14E z14e.symm z16 z16Z z16E z16e.symm) (fun z18 h19 z18Z z18E p20 => ?_)
            obtain ⟨eh19, p20⟩ := p20
            subst eh19
            exact V_iret rfl d_Rod_back_46 ⟨z18, rfl, ⟨hI12, f13, ⟨Or.inl ⟨by (first | decide +kernel | omega), (by rw [show h.1 87 0 = z4 from by rw [z4e]; exact congrArg (h.1 87) (by (first | decide +kernel | omega)), z4E]; omega), p11⟩, Or.inl ⟨Or.inl ⟨by (first | decide +kernel | omega), (by rw [show h.1 87 0 = z4 from by rw [z4e]; exact congrArg (h.1 87) (by (first | decide +kernel | omega)), z4E]; omega)⟩, (by rw [show h10.1 1 0 = z14 from z14e.symm, show h10.1 1 1 = z16 from z16e.symm, z14E, z16E]; exact p20)⟩⟩⟩⟩
          ·
            refine V_aald (r := 51) sk_86 (by decide) kE (by (first | decide +kernel | omega)) (by rw [c6]; rfl) d_Rod_back_32 ?_
            obtain ⟨z21, z21Z, z21E, z21e⟩ : ∃ (y : Int32) (Y : Int), y.toInt = Y ∧ y = h.1 51 3 := ⟨_, _, rfl, rfl⟩
            obtain ⟨z22, z22Z, z22E, z22e⟩ : ∃ (y : Int32) (Y : Int), y.toInt = Y ∧ y = h.1 51 4 := ⟨_, _, rfl, rfl⟩
            refine N_callVV [.ref 51] [] cv_Rod_84 sk_0 rfl d_Rod_back_33 rfl (Nat.le_of_ble_eq_true rfl) (by decide) (by decide) (c_County_copyX_0_3 h hI z21 z21Z z21E z21e.symm z22 z22Z z22E z22e.symm) (fun h24 p25 => ?_)
            obtain ⟨hI26, fh24, p25⟩ := p25
            have f27 : fr S_Rod_backW h h24 := fr_call f0 fh24 rfl
            refine V_aload_n 0 d_Rod_back_36 rfl rfl ?_
            refine V_getR fa_Rod_12 sk_85 rfl d_Rod_back_37 ?_
            refine V_getR fa_Rod_91 sk_0 rfl d_Rod_back_40 ?_
            obtain ⟨z28, z28Z, z28E, z28e⟩ : ∃ (y : Int32) (Y : Int), y.toInt = Y ∧ y = h24.1 1 0 := ⟨_, _, rfl, rfl⟩
            have g29 : 2 ≤ z28Z ∧ z28Z ≤ 4 := inv_at hI26 z28E z28e rfl
            obtain ⟨z30, z30Z, z30E, z30e⟩ : ∃ (y : Int32) (Y : Int), y.toInt = Y ∧ y = h24.1 1 1 := ⟨_, _, rfl, rfl⟩
            have g31 : 2 ≤ z30Z ∧ z30Z ≤ 4 := inv_at hI26 z30E z30e rfl
            refine N_callVI [] [] cv_Rod_168 sk_1 rfl d_Rod_back_43 rfl (Nat.le_of_ble_eq_true rfl) (by decide) (by decide) (c_Land_wellsX_0 h24 hI26 z28 z28Z z28E z28e.symm z30 z30Z z30E z30e.symm) (fun z32 h33 z32Z z32E p34 => ?_)
            obtain ⟨eh33, p34⟩ := p34
            subst eh33
            exact V_iret rfl d_Rod_back_46 ⟨z32, rfl, ⟨hI26, f27, (by exfalso; omega)⟩⟩
        ·
          refine V_bipush (-2) d_Rod_back_20 (by decide) ?_
          exact V_iret rfl d_Rod_back_22 ⟨(-2), rfl, ⟨hI, f0, ⟨Or.inr (Or.inr ⟨Or.inl ⟨by (first | decide +kernel | omega), (by rw [show h.1 87 0 = z4 from by rw [z4e]; exact congrArg (h.1 87) (by (first | decide +kernel | omega)), z4E]; omega)⟩, rfl⟩), Or.inr (Or.inl ⟨Or.inl ⟨by (first | decide +kernel | omega), (by rw [show h.1 87 0 = z4 from by rw [z4e]; exact congrArg (h.1 87) (by (first | decide +kernel | omega)), z4E]; omega)⟩, tc_m2⟩)⟩⟩⟩
      ·
        refine V_aload_n 0 d_Rod_back_11 rfl rfl ?_
        refine V_getR fa_Rod_23 sk_85 rfl d_Rod_back_12 ?_
        refine V_iload_n 1 d_Rod_back_15 rfl rfl ?_
        refine N_zald sk_87 kE (by (first | decide +kernel | omega)) d_Rod_back_16 (fun z35 z35Z z35E z35e => ?_)
        refine V_if_ne 23 z35E d_Rod_back_17 (by decide) (fun c36 => ?_) (fun c36 => ?_)
        ·
          refine V_aload_n 0 d_Rod_back_23 rfl rfl ?_
          refine V_getR fa_Rod_12 sk_85 rfl d_Rod_back_24 ?_
          refine V_aload_n 0 d_Rod_back_27 rfl rfl ?_
          refine V_getR fa_Rod_19 sk_85 rfl d_Rod_back_28 ?_
          refine V_iload_n 1 d_Rod_back_31 rfl rfl ?_
          rcases (by (first | decide +kernel | omega) : kZ = 0 ∨ kZ = 1) with c37 | c37
          ·
            refine V_aald (r := 34) sk_86 (by decide) kE (by (first | decide +kernel | omega)) (by rw [c37]; rfl) d_Rod_back_32 ?_
            obtain ⟨z38, z38Z, z38E, z38e⟩ : ∃ (y : Int32) (Y : Int), y.toInt = Y ∧ y = h.1 34 3 := ⟨_, _, rfl, rfl⟩
            obtain ⟨z39, z39Z, z39E, z39e⟩ : ∃ (y : Int32) (Y : Int), y.toInt = Y ∧ y = h.1 34 4 := ⟨_, _, rfl, rfl⟩
            refine N_callVV [.ref 34] [] cv_Rod_84 sk_0 rfl d_Rod_back_33 rfl (Nat.le_of_ble_eq_true rfl) (by decide) (by decide) (c_County_copyX_0_2 h hI z38 z38Z z38E z38e.symm z39 z39Z z39E z39e.symm) (fun h41 p42 => ?_)
            obtain ⟨hI43, fh41, p42⟩ := p42
            have f44 : fr S_Rod_backW h h41 := fr_call f0 fh41 rfl
            refine V_aload_n 0 d_Rod_back_36 rfl rfl ?_
            refine V_getR fa_Rod_12 sk_85 rfl d_Rod_back_37 ?_
            refine V_getR fa_Rod_91 sk_0 rfl d_Rod_back_40 ?_
            obtain ⟨z45, z45Z, z45E, z45e⟩ : ∃ (y : Int32) (Y : Int), y.toInt = Y ∧ y = h41.1 1 0 := ⟨_, _, rfl, rfl⟩
            have g46 : 2 ≤ z45Z ∧ z45Z ≤ 4 := inv_at hI43 z45E z45e rfl
            obtain ⟨z47, z47Z, z47E, z47e⟩ : ∃ (y : Int32) (Y : Int), y.toInt = Y ∧ y = h41.1 1 1 := ⟨_, _, rfl, rfl⟩
            have g48 : 2 ≤ z47Z ∧ z47Z ≤ 4 := inv_at hI43 z47E z47e rfl
            refine N_callVI [] [] cv_Rod_168 sk_1 rfl d_Rod_back_43 rfl (Nat.le_of_ble_eq_true rfl) (by decide) (by decide) (c_Land_wellsX_0 h41 hI43 z45 z45Z z45E z45e.symm z47 z47Z z47E z47e.symm) (fun z49 h50 z49Z z49E p51 => ?_)
            obtain ⟨eh50, p51⟩ := p51
            subst eh50
            exact V_iret rfl d_Rod_back_46 ⟨z49, rfl, ⟨hI43, f44, (by exfalso; omega)⟩⟩
          ·
            refine V_aald (r := 51) sk_86 (by decide) kE (by (first | decide +kernel | omega)) (by rw [c37]; rfl) d_Rod_back_32 ?_
            obtain ⟨z52, z52Z, z52E, z52e⟩ : ∃ (y : Int32) (Y : Int), y.toInt = Y ∧ y = h.1 51 3 := ⟨_, _, rfl, rfl⟩
            obtain ⟨z53, z53Z, z53E, z53e⟩ : ∃ (y : Int32) (Y : Int), y.toInt = Y ∧ y = h.1 51 4 := ⟨_, _, rfl, rfl⟩
            refine N_callVV [.ref 51] [] cv_Rod_84 sk_0 rfl d_Rod_back_33 rfl (Nat.le_of_ble_eq_true rfl) (by decide) (by decide) (c_County_copyX_0_3 h hI z52 z52Z z52E z52e.symm z53 z53Z z53E z53e.symm) (fun h55 p56 => ?_)
            obtain ⟨hI57, fh55, p56⟩ := p56
            have f58 : fr S_Rod_backW h h55 := fr_call f0 fh55 rfl
            refine V_aload_n 0 d_Rod_back_36 rfl rfl ?_
            refine V_getR fa_Rod_12 sk_85 rfl d_Rod_back_37 ?_
            refine V_getR fa_Rod_91 sk_0 rfl d_Rod_back_40 ?_
            obtain ⟨z59, z59Z, z59E, z59e⟩ : ∃ (y : Int32) (Y : Int), y.toInt = Y ∧ y = h55.1 1 0 := ⟨_, _, rfl, rfl⟩
            have g60 : 2 ≤ z59Z ∧ z59Z ≤ 4 := inv_at hI57 z59E z59e rfl
            obtain ⟨z61, z61Z, z61E, z61e⟩ : ∃ (y : Int32) (Y : Int), y.toInt = Y ∧ y = h55.1 1 1 := ⟨_, _, rfl, rfl⟩
            have g62 : 2 ≤ z61Z ∧ z61Z ≤ 4 := inv_at hI57 z61E z61e rfl
            refine N_callVI [] [] cv_Rod_168 sk_1 rfl d_Rod_back_43 rfl (Nat.le_of_ble_eq_true rfl) (by decide) (by decide) (c_Land_wellsX_0 h55 hI57 z59 z59Z z59E z59e.symm z61 z61Z z61E z61e.symm) (fun z63 h64 z63Z z63E p65 => ?_)
            obtain ⟨eh64, p65⟩ := p65
            subst eh64
            exact V_iret rfl d_Rod_back_46 ⟨z63, rfl, ⟨hI57, f58, ⟨Or.inr (Or.inl ⟨by (first | decide +kernel | omega), (by rw [show h.1 87 1 = z35 from by rw [z35e]; exact congrArg (h.1 87) (by (first | decide +kernel | omega)), z35E]; omega), p56⟩), Or.inl ⟨Or.inr ⟨by (first | decide +kernel | omega), (by rw [show h.1 87 1 = z35 from by rw [z35e]; exact congrArg (h.1 87) (by (first | decide +kernel | omega)), z35E]; omega)⟩, (by rw [show h55.1 1 0 = z59 from z59e.symm, show h55.1 1 1 = z61 from z61e.symm, z59E, z61E]; exact p65)⟩⟩⟩⟩
        ·
          refine V_bipush (-2) d_Rod_back_20 (by decide) ?_
          exact V_iret rfl d_Rod_back_22 ⟨(-2), rfl, ⟨hI, f0, ⟨Or.inr (Or.inr ⟨Or.inr (Or.inl ⟨by (first | decide +kernel | omega), (by rw [show h.1 87 1 = z35 from by rw [z35e]; exact congrArg (h.1 87) (by (first | decide +kernel | omega)), z35E]; omega)⟩), rfl⟩), Or.inr (Or.inl ⟨Or.inr ⟨by (first | decide +kernel | omega), (by rw [show h.1 87 1 = z35 from by rw [z35e]; exact congrArg (h.1 87) (by (first | decide +kernel | omega)), z35E]; omega)⟩, tc_m2⟩)⟩⟩⟩
    ·
      refine V_iconst (-1) d_Rod_back_9 (by decide) ?_
      exact V_iret rfl d_Rod_back_10 ⟨(-1), rfl, ⟨hI, f0, ⟨Or.inr (Or.inr ⟨by (first | decide +kernel | omega), rfl⟩), Or.inr (Or.inr ⟨by (first | decide +kernel | omega), tc_m1⟩)⟩⟩⟩
def S_Mod_backW : List (Nat × Option Nat) := [(117, none)]
abbrev q_Mod_backW (h : Hp) (k : Int32) (kZ : Int) (w : Int32) (wZ : Int) (g : Int32) (gZ : Int) : Option Value → Hp → Prop := pInt (fun r h' => Inv h' ∧ fr S_Mod_backW h h' ∧ ((kZ = 0 ∧ (h.1 118 0).toInt ≠ 0 ∧ mcl h h' 0 144 144 ∨ kZ = 1 ∧ (h.1 118 1).toInt ≠ 0 ∧ mcl h h' 0 288 144 ∨ (kZ = 0 ∧ (h.1 118 0).toInt = 0 ∨ kZ = 1 ∧ (h.1 118 1).toInt = 0 ∨ kZ < 0 ∨ 1 < kZ) ∧ h' = h) ∧ (BK (h.1 118 0).toInt (h.1 118 1).toInt kZ r (ct (WQ (fun i => h'.1 117 i) (fun i => h'.1 117 (64 + i)) (wZ * gZ)) (wZ * gZ).toNat))))
set_option maxRecDepth 100000 in
theorem c_Mod_backW (h : Hp) (hI : Inv h) (k : Int32) (kZ : Int) (kE : k.toInt = kZ) (w : Int32) (wZ : Int) (wE : w.toInt = wZ) (wK : h.1 116 2 = w) (g : Int32) (gZ : Int) (gE : g.toInt = gZ) (gK : h.1 116 3 = g) : Ct y_Mod_back b_Mod_back 2 (some .int) 3 64 [.ref 116, .int k] h (q_Mod_backW h k kZ w wZ g gZ) := by
  refine ct_ow R_Mod [some (.ref 116), some (.int k)] rfl (by decide) rfl (Nat.le_of_ble_eq_true rfl) ?_
  have f0 : fr S_Mod_backW h h := fr_rf
  have g1 : 2 ≤ wZ ∧ wZ ≤ 4 := inv_at hI wE wK.symm rfl
  have g2 : 2 ≤ gZ ∧ gZ ≤ 4 := inv_at hI gE gK.symm rfl
  refine V_iload_n 1 d_Mod_back_0 rfl rfl ?_
  refine V_i2l d_Mod_back_1 (fun z3 z3e z3E => ?_)
  have z3F : z3.toInt = kZ := z3E.trans kE
  refine V_lconst 0 d_Mod_back_2 (by decide) ?_
  refine V_lconst 1 d_Mod_back_3 (by decide) ?_
  refine N_callSI [.long z3, .long 0, .long 1] [] cs_Mod_95 d_Mod_back_4 rfl (Nat.le_of_ble_eq_true rfl) (by decide) (by decide) (c_Mod_in h z3 kZ z3F 0 0 tl_0 1 1 tl_1) (fun z4 h5 z4Z z4E p6 => ?_)
  obtain ⟨eh5, p6⟩ := p6
  subst eh5
  refine V_if_ne 12 z4E d_Mod_back_7 (by decide) (fun c7 => ?_) (fun c7 => ?_)
  ·
    rcases (by (first | decide +kernel | omega) : kZ = 0 ∨ kZ = 1) with c8 | c8
    ·
      refine V_aload_n 0 d_Mod_back_12 rfl rfl ?_
      refine V_getR fa_Mod_13 sk_116 rfl d_Mod_back_13 ?_
      refine V_iload_n 1 d_Mod_back_16 rfl rfl ?_
      refine N_zald sk_118 kE (by (first | decide +kernel | omega)) d_Mod_back_17 (fun z9 z9Z z9E z9e => ?_)
      refine V_if_ne 24 z9E d_Mod_back_18 (by decide) (fun c10 => ?_) (fun c10 => ?_)
      ·
        refine V_aload_n 0 d_Mod_back_24 rfl rfl ?_
        refine V_iconst 0 d_Mod_back_25 (by decide) ?_
        refine V_sipush 144 d_Mod_back_26 (by decide) ?_
        refine V_iload_n 1 d_Mod_back_29 rfl rfl ?_
        refine V_iconst 1 d_Mod_back_30 (by decide) ?_
        refine V_iadd kE tc_1 (by (first | decide +kernel | omega)) d_Mod_back_31 (fun z11 z11e z11E => ?_)
        refine V_imul tc_144 z11E (by (first | decide +kernel | omega)) d_Mod_back_32 (fun z12 z12e z12E => ?_)
        refine N_callVV [.int 0, .int z12] [] cv_Mod_317 sk_116 rfl d_Mod_back_33 rfl (Nat.le_of_ble_eq_true rfl) (by decide) (by decide) (c_Mod_copiesX h hI 0 0 tc_0 z12 ((144 * (kZ + 1))) z12E (by (first | decide +kernel | omega)) (by (first | decide +kernel | omega))) (fun h14 p15 => ?_)
        obtain ⟨hI16, fh14, p15⟩ := p15
        have f17 : fr S_Mod_backW h h14 := fr_call f0 fh14 rfl
        refine V_aload_n 0 d_Mod_back_36 rfl rfl ?_
        refine N_callVI [] [] cv_Mod_223 sk_116 rfl d_Mod_back_37 rfl (Nat.le_of_ble_eq_true rfl) (by decide) (by decide) (c_Mod_wellsX h14 hI16 w wZ wE (kn_call fh14 wK rfl) g gZ gE (kn_call fh14 gK rfl)) (fun z18 h19 z18Z z18E p20 => ?_)
        obtain ⟨eh19, p20⟩ := p20
        subst eh19
        exact V_iret rfl d_Mod_back_40 ⟨z18, rfl, ⟨hI16, f17, ⟨Or.inl ⟨by (first | decide +kernel | omega), (by rw [show h.1 118 0 = z9 from by rw [z9e]; exact congrArg (h.1 118) (by (first | decide +kernel | omega)), z9E]; omega), (mcl_T (by (first | decide +kernel | omega)) p15)⟩, Or.inl ⟨Or.inl ⟨by (first | decide +kernel | omega), (by rw [show h.1 118 0 = z9 from by rw [z9e]; exact congrArg (h.1 118) (by (first | decide +kernel | omega)), z9E]; omega)⟩, p20⟩⟩⟩⟩
      ·
        refine V_bipush (-2) d_Mod_back_21 (by decide) ?_
        exact V_iret rfl d_Mod_back_23 ⟨(-2), rfl, ⟨hI, f0, ⟨Or.inr (Or.inr ⟨Or.inl ⟨by (first | decide +kernel | omega), (by rw [show h.1 118 0 = z9 from by rw [z9e]; exact congrArg (h.1 118) (by (first | decide +kernel | omega)), z9E]; omega)⟩, rfl⟩), Or.inr (Or.inl ⟨Or.inl ⟨by (first | decide +kernel | omega), (by rw [show h.1 118 0 = z9 from by rw [z9e]; exact congrArg (h.1 118) (by (first | decide +kernel | omega)), z9E]; omega)⟩, tc_m2⟩)⟩⟩⟩
    ·
      refine V_aload_n 0 d_Mod_back_12 rfl rfl ?_
      refine V_getR fa_Mod_13 sk_116 rfl d_Mod_back_13 ?_
      refine V_iload_n 1 d_Mod_back_16 rfl rfl ?_
      refine N_zald sk_118 kE (by (first | decide +kernel | omega)) d_Mod_back_17 (fun z21 z21Z z21E z21e => ?_)
      refine V_if_ne 24 z21E d_Mod_back_18 (by decide) (fun c22 => ?_) (fun c22 => ?_)
      ·
        refine V_aload_n 0 d_Mod_back_24 rfl rfl ?_
        refine V_iconst 0 d_Mod_back_25 (by decide) ?_
        refine V_sipush 144 d_Mod_back_26 (by decide) ?_
        refine V_iload_n 1 d_Mod_back_29 rfl rfl ?_
        refine V_iconst 1 d_Mod_back_30 (by decide) ?_
        refine V_iadd kE tc_1 (by (first | decide +kernel | omega)) d_Mod_back_31 (fun z23 z23e z23E => ?_)
        refine V_imul tc_144 z23E (by (first | decide +kernel | omega)) d_Mod_back_32 (fun z24 z24e z24E => ?_)
        refine N_callVV [.int 0, .int z24] [] cv_Mod_317 sk_116 rfl d_Mod_back_33 rfl (Nat.le_of_ble_eq_true rfl) (by decide) (by decide) (c_Mod_copiesX h hI 0 0 tc_0 z24 ((144 * (kZ + 1))) z24E (by (first | decide +kernel | omega)) (by (first | decide +kernel | omega))) (fun h26 p27 => ?_)
        obtain ⟨hI28, fh26, p27⟩ := p27
        have f29 : fr S_Mod_backW h h26 := fr_call f0 fh26 rfl
        refine V_aload_n 0 d_Mod_back_36 rfl rfl ?_
        refine N_callVI [] [] cv_Mod_223 sk_116 rfl d_Mod_back_37 rfl (Nat.le_of_ble_eq_true rfl) (by decide) (by decide) (c_Mod_wellsX h26 hI28 w wZ wE (kn_call fh26 wK rfl) g gZ gE (kn_call fh26 gK rfl)) (fun z30 h31 z30Z z30E p32 => ?_)
        obtain ⟨eh31, p32⟩ := p32
        subst eh31
        exact V_iret rfl d_Mod_back_40 ⟨z30, rfl, ⟨hI28, f29, ⟨Or.inr (Or.inl ⟨by (first | decide +kernel | omega), (by rw [show h.1 118 1 = z21 from by rw [z21e]; exact congrArg (h.1 118) (by (first | decide +kernel | omega)), z21E]; omega), (mcl_T (by (first | decide +kernel | omega)) p27)⟩), Or.inl ⟨Or.inr ⟨by (first | decide +kernel | omega), (by rw [show h.1 118 1 = z21 from by rw [z21e]; exact congrArg (h.1 118) (by (first | decide +kernel | omega)), z21E]; omega)⟩, p32⟩⟩⟩⟩
      ·
        refine V_bipush (-2) d_Mod_back_21 (by decide) ?_
        exact V_iret rfl d_Mod_back_23 ⟨(-2), rfl, ⟨hI, f0, ⟨Or.inr (Or.inr ⟨Or.inr (Or.inl ⟨by (first | decide +kernel | omega), (by rw [show h.1 118 1 = z21 from by rw [z21e]; exact congrArg (h.1 118) (by (first | decide +kernel | omega)), z21E]; omega)⟩), rfl⟩), Or.inr (Or.inl ⟨Or.inr ⟨by (first | decide +kernel | omega), (by rw [show h.1 118 1 = z21 from by rw [z21e]; exact congrArg (h.1 118) (by (first | decide +kernel | omega)), z21E]; omega)⟩, tc_m2⟩)⟩⟩⟩
  ·
    refine V_iconst (-1) d_Mod_back_10 (by decide) ?_
    exact V_iret rfl d_Mod_back_11 ⟨(-1), rfl, ⟨hI, f0, ⟨Or.inr (Or.inr ⟨by (first | decide +kernel | omega), rfl⟩), Or.inr (Or.inr ⟨by (first | decide +kernel | omega), tc_m1⟩)⟩⟩⟩
abbrev q_Land_boredBitsX_0 (h : Hp) (d : Int32) (dZ : Int) (w : Int32) (wZ : Int) (g : Int32) (gZ : Int) : Option Value → Hp → Prop := pInt (fun r h' => h = h' ∧ (BS r (BQ (h.1 6) dZ (wZ * gZ))))
set_option maxRecDepth 100000 in
theorem c_Land_boredBitsX_0 (h : Hp) (hI : Inv h) (d : Int32) (dZ : Int) (dE : d.toInt = dZ) (w : Int32) (wZ : Int) (wE : w.toInt = wZ) (wK : h.1 1 0 = w) (g : Int32) (gZ : Int) (gE : g.toInt = gZ) (gK : h.1 1 1 = g) : Ct y_Land_boredBits b_Land_boredBits 4 (some .int) 1 20 [.ref 1, .int d] h (q_Land_boredBitsX_0 h d dZ w wZ g gZ) := by
  refine ct_ow R_Land [some (.ref 1), some (.int d), none, none] rfl (by decide) rfl (Nat.le_of_ble_eq_true rfl) ?_
  have f0 : fr [] h h := fr_rf
  have g1 : 2 ≤ wZ ∧ wZ ≤ 4 := inv_at hI wE wK.symm rfl
  have g2 : 2 ≤ gZ ∧ gZ ≤ 4 := inv_at hI gE gK.symm rfl
  have m24 := mul24 (A := wZ) (B := gZ) (by (first | decide +kernel | omega)) (by (first | decide +kernel | omega))
  refine V_iconst 0 d_Land_boredBits_0 (by decide) ?_
  refine V_istore_n 2 [some (.ref 1), some (.int d), some (.int 0), none] d_Land_boredBits_1 rfl (by decide) rfl rfl ?_
  refine V_iconst 0 d_Land_boredBits_2 (by decide) ?_
  refine V_istore_n 3 [some (.ref 1), some (.int d), some (.int 0), some (.int 0)] d_Land_boredBits_3 rfl (by decide) rfl rfl ?_
  have L3 : ∀ (nn : Nat) (v5 : Int32) (v5Z : Int) (v6 : Int32) (v6Z : Int), v5.toInt = v5Z → v6.toInt = v6Z → 0 ≤ v6Z ∧ v6Z ≤ wZ * gZ → BS v5 (BQ (h.1 6) dZ v6Z) → 16 - v6Z < (nn : Int) → V R_Land b_Land_boredBits 4 (some .int) 1 20 (q_Land_boredBitsX_0 h d dZ w wZ g gZ) h 4 [some (.ref 1), some (.int d), some (.int v5), some (.int v6)] [] := by
    intro nn
    induction nn with
    | zero => intro v5 v5Z v6 v6Z v5E v6E q7 q8 hm9; exact absurd hm9 (by (first | decide +kernel | omega))
    | succ nn ihL3 =>
      intro v5 v5Z v6 v6Z v5E v6E q7 q8 hm9
      refine V_iload_n 3 d_Land_boredBits_4 rfl rfl ?_
      refine V_aload_n 0 d_Land_boredBits_5 rfl rfl ?_
      refine N_callVI [] [.int v6] cv_Land_52 sk_1 rfl d_Land_boredBits_6 rfl (Nat.le_of_ble_eq_true rfl) (by decide) (by decide) (c_Land_cells_0 h hI w wZ wE wK g gZ gE gK) (fun z10 h11 z10Z z10E p12 => ?_)
      obtain ⟨eh11, p12⟩ := p12
      subst eh11
      refine V_icmp_ge 34 v6E z10E d_Land_boredBits_9 (by decide) (fun c13 => ?_) (fun c13 => ?_)
      ·
        refine V_iload_n 2 d_Land_boredBits_34 rfl rfl ?_
        exact V_iret rfl d_Land_boredBits_35 ⟨v5, rfl, ⟨rfl, (by rw [show wZ * gZ = v6Z by (first | decide +kernel | omega)]; assumption)⟩⟩
      ·
        refine V_aload_n 0 d_Land_boredBits_12 rfl rfl ?_
        refine V_getR fa_Land_24 sk_1 rfl d_Land_boredBits_13 ?_
        refine V_iload_n 3 d_Land_boredBits_16 rfl rfl ?_
        refine N_iald sk_6 v6E (by (first | decide +kernel | omega)) d_Land_boredBits_17 (fun z14 z14Z z14E z14e => ?_)
        refine V_iload_n 1 d_Land_boredBits_18 rfl rfl ?_
        refine V_icmp_lt 28 z14E dE d_Land_boredBits_19 (by decide) (fun c15 => ?_) (fun c15 => ?_)
        ·
          obtain ⟨z16, z16E, z16e⟩ : ∃ y : Int32, y.toInt = v6Z + 1 ∧ y = v6 + Int32.ofInt 1 := ⟨_, ti_add v6E (by decide) (by (first | decide +kernel | omega)), rfl⟩
          refine V_iinc 3 [some (.ref 1), some (.int d), some (.int v5), some (.int z16)] d_Land_boredBits_28 rfl z16e.symm (by decide) rfl rfl ?_
          refine V_goto 4 d_Land_boredBits_31 (by decide) ?_
          exact ihL3 v5 v5Z z16 ((v6Z + 1)) v5E z16E (by (first | decide +kernel | omega)) (BQ_n (by assumption) (by (first | decide +kernel | omega)) z14e z14E (by (first | decide +kernel | omega))) (by (first | decide +kernel | omega))
        ·
          refine V_iload_n 2 d_Land_boredBits_22 rfl rfl ?_
          refine V_iconst 1 d_Land_boredBits_23 (by decide) ?_
          refine V_iload_n 3 d_Land_boredBits_24 rfl rfl ?_
          refine N_ishl d_Land_boredBits_25 (fun z17 z17Z z17E z17e => ?_)
          refine N_ior d_Land_boredBits_26 (fun z18 z18Z z18E z18e => ?_)
          refine V_istore_n 2 [some (.ref 1), some (.int d), some (.int z18), some (.int v6)] d_Land_boredBits_27 rfl (by decide) rfl rfl ?_
          obtain ⟨z19, z19E, z19e⟩ : ∃ y : Int32, y.toInt = v6Z + 1 ∧ y = v6 + Int32.ofInt 1 := ⟨_, ti_add v6E (by decide) (by (first | decide +kernel | omega)), rfl⟩
          refine V_iinc 3 [some (.ref 1), some (.int d), some (.int z18), some (.int z19)] d_Land_boredBits_28 rfl z19e.symm (by decide) rfl rfl ?_
          refine V_goto 4 d_Land_boredBits_31 (by decide) ?_
          exact ihL3 z18 z18Z z19 ((v6Z + 1)) z18E z19E (by (first | decide +kernel | omega)) (BQ_1 (by assumption) v6E (by (first | decide +kernel | omega)) z14e z14E (by (first | decide +kernel | omega)) z17e z18e) (by (first | decide +kernel | omega))
  exact L3 (Int.toNat ((16 - 0 : Int) + 1)) 0 0 0 0 tc_0 tc_0 (by (first | decide +kernel | omega)) BQ_0 (by (first | decide +kernel | omega))
abbrev q_Ledger_allPursesX_0 (h : Hp)  : Option Value → Hp → Prop := pInt (fun r h' => h = h' ∧ (r = sm (h.1 8) 4))
set_option maxRecDepth 100000 in
theorem c_Ledger_allPursesX_0 (h : Hp) (hI : Inv h) : Ct y_Ledger_allPurses b_Ledger_allPurses 3 (some .int) 0 0 [.ref 7] h (q_Ledger_allPursesX_0 h ) := by
  refine ct_ow R_Ledger [some (.ref 7), none, none] rfl (by decide) rfl (Nat.le_of_ble_eq_true rfl) ?_
  have f0 : fr [] h h := fr_rf
  refine V_iconst 0 d_Ledger_allPurses_0 (by decide) ?_
  refine V_istore_n 1 [some (.ref 7), some (.int 0), none] d_Ledger_allPurses_1 rfl (by decide) rfl rfl ?_
  refine V_iconst 0 d_Ledger_allPurses_2 (by decide) ?_
  refine V_istore_n 2 [some (.ref 7), some (.int 0), some (.int 0)] d_Ledger_allPurses_3 rfl (by decide) rfl rfl ?_
  have L1 : ∀ (nn : Nat) (v3 : Int32) (v3Z : Int) (v4 : Int32) (v4Z : Int), v3.toInt = v3Z → v4.toInt = v4Z → 0 ≤ v4Z ∧ v4Z ≤ 4 → v3 = sm (h.1 8) (v4Z).toNat → 4 - v4Z < (nn : Int) → V R_Ledger b_Ledger_allPurses 3 (some .int) 0 0 (q_Ledger_allPursesX_0 h ) h 4 [some (.ref 7), some (.int v3), some (.int v4)] [] := by
    intro nn
    induction nn with
    | zero => intro v3 v3Z v4 v4Z v3E v4E q5 q6 hm7; exact absurd hm7 (by (first | decide +kernel | omega))
    | succ nn ihL1 =>
      intro v3 v3Z v4 v4Z v3E v4E q5 q6 hm7
      refine V_iload_n 2 d_Ledger_allPurses_4 rfl rfl ?_
      refine V_iconst 4 d_Ledger_allPurses_5 (by decide) ?_
      refine V_icmp_ge 24 v4E tc_4 d_Ledger_allPurses_6 (by decide) (fun c8 => ?_) (fun c8 => ?_)
      ·
        refine V_iload_n 1 d_Ledger_allPurses_24 rfl rfl ?_
        exact V_iret rfl d_Ledger_allPurses_25 ⟨v3, rfl, ⟨rfl, (by rw [show (4 : Nat) = (v4Z).toNat by (first | decide +kernel | omega)]; assumption)⟩⟩
      ·
        refine V_iload_n 1 d_Ledger_allPurses_9 rfl rfl ?_
        refine V_aload_n 0 d_Ledger_allPurses_10 rfl rfl ?_
        refine V_getR fa_Ledger_9 sk_7 rfl d_Ledger_allPurses_11 ?_
        refine V_iload_n 2 d_Ledger_allPurses_14 rfl rfl ?_
        refine N_iald sk_8 v4E (by (first | decide +kernel | omega)) d_Ledger_allPurses_15 (fun z9 z9Z z9E z9e => ?_)
        refine N_iaddw d_Ledger_allPurses_16 (fun z10 z10Z z10E z10e => ?_)
        refine V_istore_n 1 [some (.ref 7), some (.int z10), some (.int v4)] d_Ledger_allPurses_17 rfl (by decide) rfl rfl ?_
        obtain ⟨z11, z11E, z11e⟩ : ∃ y : Int32, y.toInt = v4Z + 1 ∧ y = v4 + Int32.ofInt 1 := ⟨_, ti_add v4E (by decide) (by (first | decide +kernel | omega)), rfl⟩
        refine V_iinc 2 [some (.ref 7), some (.int z10), some (.int z11)] d_Ledger_allPurses_18 rfl z11e.symm (by decide) rfl rfl ?_
        refine V_goto 4 d_Ledger_allPurses_21 (by decide) ?_
        exact ihL1 z10 z10Z z11 ((v4Z + 1)) z10E z11E (by (first | decide +kernel | omega)) (sm_s (by (first | decide +kernel | omega)) (by assumption) z9e z10e) (by (first | decide +kernel | omega))
  exact L1 (Int.toNat ((4 - 0 : Int) + 1)) 0 0 0 0 tc_0 tc_0 (by (first | decide +kernel | omega)) rfl (by (first | decide +kernel | omega))
abbrev q_Rod_countX (h : Hp) (a : Int32) (aZ : Int) (w : Int32) (wZ : Int) (g : Int32) (gZ : Int) : Option Value → Hp → Prop := pInt (fun r h' => h = h' ∧ (CN aZ r (h.1 12 4) (h.1 89 1) (h.1 108 2) (sm (h.1 8) 4) (ct (WQ (h.1 2) (h.1 6) (wZ * gZ)) 32) (ct (BQ (h.1 6) 1 (wZ * gZ)) 32) (h.1 87 0) (h.1 87 1) (h.1 108 1).toInt (-1)))
set_option maxRecDepth 100000 in
theorem c_Rod_countX (h : Hp) (hI : Inv h) (a : Int32) (aZ : Int) (aE : a.toInt = aZ) (w : Int32) (wZ : Int) (wE : w.toInt = wZ) (wK : h.1 1 0 = w) (g : Int32) (gZ : Int) (gE : g.toInt = gZ) (gK : h.1 1 1 = g) : Ct y_Rod_count b_Rod_count 2 (some .int) 3 63 [.ref 85, .int a] h (q_Rod_countX h a aZ w wZ g gZ) := by
  refine ct_ow R_Rod [some (.ref 85), some (.int a)] rfl (by decide) rfl (Nat.le_of_ble_eq_true rfl) ?_
  have f0 : fr [] h h := fr_rf
  have g1 : 2 ≤ wZ ∧ wZ ≤ 4 := inv_at hI wE wK.symm rfl
  have g2 : 2 ≤ gZ ∧ gZ ≤ 4 := inv_at hI gE gK.symm rfl
  refine V_iload_n 1 d_Rod_count_0 rfl rfl ?_
  rcases (by (first | decide +kernel | omega) : (aZ < 0 ∨ 6 < aZ) ∨ aZ = 0 ∨ aZ = 1 ∨ aZ = 2 ∨ aZ = 3 ∨ aZ = 4 ∨ aZ = 5 ∨ aZ = 6) with c3 | c3 | c3 | c3 | c3 | c3 | c3 | c3
  ·
    refine V_tabOut 148 aE d_Rod_count_1 c3 (by decide) ?_
    refine V_iconst (-1) d_Rod_count_148 (by decide) ?_
    exact V_iret rfl d_Rod_count_149 ⟨(-1), rfl, ⟨rfl, (Or.inr (Or.inr (Or.inr (Or.inr (Or.inr (Or.inr (Or.inr ⟨by (first | decide +kernel | omega), tc_m1⟩)))))))⟩⟩
  ·
    refine V_tabIn 44 aE d_Rod_count_1 (by (first | decide +kernel | omega)) (by (first | decide +kernel | omega)) (by rw [c3]; rfl) (by decide) ?_
    refine V_aload_n 0 d_Rod_count_44 rfl rfl ?_
    refine V_getR fa_Rod_12 sk_85 rfl d_Rod_count_45 ?_
    refine V_getR fa_Rod_91 sk_0 rfl d_Rod_count_48 ?_
    refine N_callVI [] [] cv_Rod_168 sk_1 rfl d_Rod_count_51 rfl (Nat.le_of_ble_eq_true rfl) (by decide) (by decide) (c_Land_wellsX_0 h hI w wZ wE wK g gZ gE gK) (fun z4 h5 z4Z z4E p6 => ?_)
    obtain ⟨eh5, p6⟩ := p6
    subst eh5
    exact V_iret rfl d_Rod_count_54 ⟨z4, rfl, ⟨rfl, (Or.inl ⟨by (first | decide +kernel | omega), p6⟩)⟩⟩
  ·
    refine V_tabIn 55 aE d_Rod_count_1 (by (first | decide +kernel | omega)) (by (first | decide +kernel | omega)) (by rw [c3]; rfl) (by decide) ?_
    refine V_aload_n 0 d_Rod_count_55 rfl rfl ?_
    refine V_getR fa_Rod_12 sk_85 rfl d_Rod_count_56 ?_
    refine V_getR fa_Rod_91 sk_0 rfl d_Rod_count_59 ?_
    refine V_iconst 1 d_Rod_count_62 (by decide) ?_
    refine N_callVI [.int 1] [] cv_Rod_312 sk_1 rfl d_Rod_count_63 rfl (Nat.le_of_ble_eq_true rfl) (by decide) (by decide) (c_Land_boredBitsX_0 h hI 1 1 tc_1 w wZ wE wK g gZ gE gK) (fun z7 h8 z7Z z7E p9 => ?_)
    obtain ⟨eh8, p9⟩ := p9
    subst eh8
    refine N_callSI [.int z7] [] cs_Rod_199 d_Rod_count_66 rfl (Nat.le_of_ble_eq_true rfl) (by decide) (by decide) (c_Int_bitCountX h z7 z7Z z7E) (fun z10 h11 z10Z z10E p12 => ?_)
    obtain ⟨eh11, p12⟩ := p12
    subst eh11
    exact V_iret rfl d_Rod_count_69 ⟨z10, rfl, ⟨rfl, (Or.inr (Or.inl ⟨by (first | decide +kernel | omega), (p12.trans (congrArg (fun q : Nat => (q : Int)) (BS_ct p9)))⟩))⟩⟩
  ·
    refine V_tabIn 70 aE d_Rod_count_1 (by (first | decide +kernel | omega)) (by (first | decide +kernel | omega)) (by rw [c3]; rfl) (by decide) ?_
    refine V_aload_n 0 d_Rod_count_70 rfl rfl ?_
    refine V_getR fa_Rod_12 sk_85 rfl d_Rod_count_71 ?_
    refine V_getR fa_Rod_178 sk_0 rfl d_Rod_count_74 ?_
    refine N_getI fa_Rod_182 sk_12 rfl d_Rod_count_77 (fun z13 z13Z z13E z13e => ?_)
    have g14 : 0 ≤ z13Z ∧ z13Z ≤ 8 := inv_at hI z13E z13e rfl
    exact V_iret rfl d_Rod_count_80 ⟨z13, rfl, ⟨rfl, (Or.inr (Or.inr (Or.inl ⟨by (first | decide +kernel | omega), (z13e.symm).symm⟩)))⟩⟩
  ·
    refine V_tabIn 81 aE d_Rod_count_1 (by (first | decide +kernel | omega)) (by (first | decide +kernel | omega)) (by rw [c3]; rfl) (by decide) ?_
    refine V_aload_n 0 d_Rod_count_81 rfl rfl ?_
    refine V_getR fa_Rod_23 sk_85 rfl d_Rod_count_82 ?_
    refine V_iconst 0 d_Rod_count_85 (by decide) ?_
    refine N_zald sk_87 tc_0 (by (first | decide +kernel | omega)) d_Rod_count_86 (fun z15 z15Z z15E z15e => ?_)
    refine N_callSI [.int z15] [] cs_Rod_147 d_Rod_count_87 rfl (Nat.le_of_ble_eq_true rfl) (by decide) (by decide) (c_Rod_oneIf h z15 z15Z z15E) (fun z16 h17 z16Z z16E p18 => ?_)
    obtain ⟨eh17, p18⟩ := p18
    subst eh17
    refine V_aload_n 0 d_Rod_count_90 rfl rfl ?_
    refine V_getR fa_Rod_23 sk_85 rfl d_Rod_count_91 ?_
    refine V_iconst 1 d_Rod_count_94 (by decide) ?_
    refine N_zald sk_87 tc_1 (by (first | decide +kernel | omega)) d_Rod_count_95 (fun z19 z19Z z19E z19e => ?_)
    refine N_callSI [.int z19] [.int z16] cs_Rod_147 d_Rod_count_96 rfl (Nat.le_of_ble_eq_true rfl) (by decide) (by decide) (c_Rod_oneIf h z19 z19Z z19E) (fun z20 h21 z20Z z20E p22 => ?_)
    obtain ⟨eh21, p22⟩ := p22
    subst eh21
    refine V_iadd z16E z20E (by (first | decide +kernel | omega)) d_Rod_count_99 (fun z23 z23e z23E => ?_)
    exact V_iret rfl d_Rod_count_100 ⟨z23, rfl, ⟨rfl, (Or.inr (Or.inr (Or.inr (Or.inl ⟨by (first | decide +kernel | omega), z16, z20, FQ_of z15e rfl z15E p18, FQ_of z19e rfl z19E p22, z23e⟩))))⟩⟩
  ·
    refine V_tabIn 101 aE d_Rod_count_1 (by (first | decide +kernel | omega)) (by (first | decide +kernel | omega)) (by rw [c3]; rfl) (by decide) ?_
    refine V_aload_n 0 d_Rod_count_101 rfl rfl ?_
    refine V_getR fa_Rod_38 sk_85 rfl d_Rod_count_102 ?_
    refine N_getI fa_Rod_67 sk_89 rfl d_Rod_count_105 (fun z24 z24Z z24E z24e => ?_)
    have g25 : 0 ≤ z24Z ∧ z24Z ≤ 160 := inv_at hI z24E z24e rfl
    exact V_iret rfl d_Rod_count_108 ⟨z24, rfl, ⟨rfl, (Or.inr (Or.inr (Or.inr (Or.inr (Or.inl ⟨by (first | decide +kernel | omega), (z24e.symm).symm⟩)))))⟩⟩
  ·
    refine V_tabIn 109 aE d_Rod_count_1 (by (first | decide +kernel | omega)) (by (first | decide +kernel | omega)) (by rw [c3]; rfl) (by decide) ?_
    refine V_aload_n 0 d_Rod_count_109 rfl rfl ?_
    refine V_getR fa_Rod_62 sk_85 rfl d_Rod_count_110 ?_
    refine V_iconst 0 d_Rod_count_113 (by decide) ?_
    refine V_aald (r := 108) sk_107 (by decide) tc_0 (by (first | decide +kernel | omega)) rfl d_Rod_count_114 ?_
    refine N_getI fa_Rod_293 sk_108 rfl d_Rod_count_115 (fun z26 z26Z z26E z26e => ?_)
    refine V_iconst (-1) d_Rod_count_118 (by decide) ?_
    refine V_icmp_ne 127 z26E tc_m1 d_Rod_count_119 (by decide) (fun c27 => ?_) (fun c27 => ?_)
    ·
      refine V_aload_n 0 d_Rod_count_127 rfl rfl ?_
      refine V_getR fa_Rod_62 sk_85 rfl d_Rod_count_128 ?_
      refine V_iconst 0 d_Rod_count_131 (by decide) ?_
      refine V_aald (r := 108) sk_107 (by decide) tc_0 (by (first | decide +kernel | omega)) rfl d_Rod_count_132 ?_
      refine N_getI fa_Rod_296 sk_108 rfl d_Rod_count_133 (fun z28 z28Z z28E z28e => ?_)
      have g29 : 0 ≤ z28Z ∧ z28Z ≤ 40 := inv_at hI z28E z28e rfl
      exact V_iret rfl d_Rod_count_136 ⟨z28, rfl, ⟨rfl, (Or.inr (Or.inr (Or.inr (Or.inr (Or.inr (Or.inl ⟨by (first | decide +kernel | omega), Or.inr ⟨by rw [show h.1 108 1 = z26 from z26e.symm, z26E]; omega, (z28e.symm).symm⟩⟩))))))⟩⟩
    ·
      refine V_bipush (-4) d_Rod_count_122 (by decide) ?_
      refine V_goto 136 d_Rod_count_124 (by decide) ?_
      exact V_iret rfl d_Rod_count_136 ⟨(-4), rfl, ⟨rfl, (Or.inr (Or.inr (Or.inr (Or.inr (Or.inr (Or.inl ⟨by (first | decide +kernel | omega), Or.inl ⟨by rw [show h.1 108 1 = z26 from z26e.symm, z26E]; omega, tc_m4⟩⟩))))))⟩⟩
  ·
    refine V_tabIn 137 aE d_Rod_count_1 (by (first | decide +kernel | omega)) (by (first | decide +kernel | omega)) (by rw [c3]; rfl) (by decide) ?_
    refine V_aload_n 0 d_Rod_count_137 rfl rfl ?_
    refine V_getR fa_Rod_12 sk_85 rfl d_Rod_count_138 ?_
    refine V_getR fa_Rod_115 sk_0 rfl d_Rod_count_141 ?_
    refine N_callVI [] [] cv_Rod_315 sk_7 rfl d_Rod_count_144 rfl (Nat.le_of_ble_eq_true rfl) (by decide) (by decide) (c_Ledger_allPursesX_0 h hI) (fun z30 h31 z30Z z30E p32 => ?_)
    obtain ⟨eh31, p32⟩ := p32
    subst eh31
    exact V_iret rfl d_Rod_count_147 ⟨z30, rfl, ⟨rfl, (Or.inr (Or.inr (Or.inr (Or.inr (Or.inr (Or.inr (Or.inl ⟨by (first | decide +kernel | omega), p32⟩)))))))⟩⟩
abbrev q_Mod_countX (h : Hp) (a : Int32) (aZ : Int) (w : Int32) (wZ : Int) (g : Int32) (gZ : Int) : Option Value → Hp → Prop := pInt (fun r h' => h = h' ∧ (CN aZ r (h.1 117 111) (h.1 116 15) (h.1 129 0) (sm (fun i => h.1 117 (80 + i)) 4) (ct (WQ (fun i => h.1 117 i) (fun i => h.1 117 (64 + i)) (wZ * gZ)) (wZ * gZ).toNat) (ct (BQ (fun i => h.1 117 (64 + i)) 1 (wZ * gZ)) (wZ * gZ).toNat) (h.1 118 0) (h.1 118 1) (h.1 128 0).toInt (-4)))
set_option maxRecDepth 100000 in
theorem c_Mod_countX (h : Hp) (hI : Inv h) (a : Int32) (aZ : Int) (aE : a.toInt = aZ) (w : Int32) (wZ : Int) (wE : w.toInt = wZ) (wK : h.1 116 2 = w) (g : Int32) (gZ : Int) (gE : g.toInt = gZ) (gK : h.1 116 3 = g) : Ct y_Mod_count b_Mod_count 5 (some .int) 3 64 [.ref 116, .int a] h (q_Mod_countX h a aZ w wZ g gZ) := by
  refine ct_ow R_Mod [some (.ref 116), some (.int a), none, none, none] rfl (by decide) rfl (Nat.le_of_ble_eq_true rfl) ?_
  have f0 : fr [] h h := fr_rf
  have g1 : 2 ≤ wZ ∧ wZ ≤ 4 := inv_at hI wE wK.symm rfl
  have g2 : 2 ≤ gZ ∧ gZ ≤ 4 := inv_at hI gE gK.symm rfl
  have m24 := mul24 (A := wZ) (B := gZ) (by (first | decide +kernel | omega)) (by (first | decide +kernel | omega))
  refine V_iconst 0 d_Mod_count_0 (by decide) ?_
  refine V_istore_n 2 [some (.ref 116), some (.int a), some (.int 0), none, none] d_Mod_count_1 rfl (by decide) rfl rfl ?_
  refine V_iconst 0 d_Mod_count_2 (by decide) ?_
  refine V_istore_n 3 [some (.ref 116), some (.int a), some (.int 0), some (.int 0), none] d_Mod_count_3 rfl (by decide) rfl rfl ?_
  refine V_iconst 0 d_Mod_count_4 (by decide) ?_
  refine V_istore 4 [some (.ref 116), some (.int a), some (.int 0), some (.int 0), some (.int 0)] d_Mod_count_5 (by decide) rfl rfl ?_
  have L3 : ∀ (nn : Nat) (v5 : Int32) (v5Z : Int) (v6 : Int32) (v6Z : Int), v5.toInt = v5Z → v6.toInt = v6Z → 0 ≤ v6Z ∧ v6Z ≤ wZ * gZ → v5Z = (ct (BQ (fun i => h.1 117 (64 + i)) 1 (wZ * gZ)) (v6Z).toNat : Nat) → 0 ≤ v5Z ∧ v5Z ≤ v6Z → 16 - v6Z < (nn : Int) → V R_Mod b_Mod_count 5 (some .int) 3 64 (q_Mod_countX h a aZ w wZ g gZ) h 7 [some (.ref 116), some (.int a), some (.int v5), some (.int 0), some (.int v6)] [] := by
    intro nn
    induction nn with
    | zero => intro v5 v5Z v6 v6Z v5E v6E q7 q8 q9 hm10; exact absurd hm10 (by (first | decide +kernel | omega))
    | succ nn ihL3 =>
      intro v5 v5Z v6 v6Z v5E v6E q7 q8 q9 hm10
      refine V_iload d_Mod_count_7 rfl ?_
      refine V_aload_n 0 d_Mod_count_9 rfl rfl ?_
      refine N_callVI [] [.int v6] cv_Mod_183 sk_116 rfl d_Mod_count_10 rfl (Nat.le_of_ble_eq_true rfl) (by decide) (by decide) (c_Mod_cellMany h hI w wZ wE wK g gZ gE gK) (fun z11 h12 z11Z z11E p13 => ?_)
      obtain ⟨eh12, p13⟩ := p13
      subst eh12
      refine V_icmp_ge 46 v6E z11E d_Mod_count_13 (by decide) (fun c14 => ?_) (fun c14 => ?_)
      ·
        have hn1 : v5Z = (ct (BQ (fun i => h.1 117 (64 + i)) 1 (wZ * gZ)) (wZ * gZ).toNat : Nat) := by rw [show (wZ * gZ).toNat = (v6Z).toNat by (first | decide +kernel | omega)]; assumption
        refine V_iconst 0 d_Mod_count_46 (by decide) ?_
        refine V_istore 4 [some (.ref 116), some (.int a), some (.int v5), some (.int 0), some (.int 0)] d_Mod_count_47 (by decide) rfl rfl ?_
        have L15 : ∀ (nn : Nat) (v17 : Int32) (v17Z : Int) (v18 : Int32) (v18Z : Int), v17.toInt = v17Z → v18.toInt = v18Z → 0 ≤ v18Z ∧ v18Z ≤ 4 → v17 = sm (fun i => h.1 117 (80 + i)) (v18Z).toNat → 4 - v18Z < (nn : Int) → V R_Mod b_Mod_count 5 (some .int) 3 64 (q_Mod_countX h a aZ w wZ g gZ) h 49 [some (.ref 116), some (.int a), some (.int v5), some (.int v17), some (.int v18)] [] := by
          intro nn
          induction nn with
          | zero => intro v17 v17Z v18 v18Z v17E v18E q19 q20 hm21; exact absurd hm21 (by (first | decide +kernel | omega))
          | succ nn ihL15 =>
            intro v17 v17Z v18 v18Z v17E v18E q19 q20 hm21
            refine V_iload d_Mod_count_49 rfl ?_
            refine V_iconst 4 d_Mod_count_51 (by decide) ?_
            refine V_icmp_ge 74 v18E tc_4 d_Mod_count_52 (by decide) (fun c22 => ?_) (fun c22 => ?_)
            ·
              have hs6 : v17 = sm (fun i => h.1 117 (80 + i)) 4 := by rw [show (4 : Nat) = (v18Z).toNat by (first | decide +kernel | omega)]; assumption
              refine V_iload_n 1 d_Mod_count_74 rfl rfl ?_
              rcases (by (first | decide +kernel | omega) : (aZ < 0 ∨ 6 < aZ) ∨ aZ = 0 ∨ aZ = 1 ∨ aZ = 2 ∨ aZ = 3 ∨ aZ = 4 ∨ aZ = 5 ∨ aZ = 6) with c23 | c23 | c23 | c23 | c23 | c23 | c23 | c23
              ·
                refine V_tabOut 181 aE d_Mod_count_75 c23 (by decide) ?_
                refine V_iconst (-1) d_Mod_count_181 (by decide) ?_
                exact V_iret rfl d_Mod_count_182 ⟨(-1), rfl, ⟨rfl, (Or.inr (Or.inr (Or.inr (Or.inr (Or.inr (Or.inr (Or.inr ⟨by (first | decide +kernel | omega), tc_m1⟩)))))))⟩⟩
              ·
                refine V_tabIn 116 aE d_Mod_count_75 (by (first | decide +kernel | omega)) (by (first | decide +kernel | omega)) (by rw [c23]; rfl) (by decide) ?_
                refine V_aload_n 0 d_Mod_count_116 rfl rfl ?_
                refine N_callVI [] [] cv_Mod_223 sk_116 rfl d_Mod_count_117 rfl (Nat.le_of_ble_eq_true rfl) (by decide) (by decide) (c_Mod_wellsX h hI w wZ wE wK g gZ gE gK) (fun z24 h25 z24Z z24E p26 => ?_)
                obtain ⟨eh25, p26⟩ := p26
                subst eh25
                exact V_iret rfl d_Mod_count_120 ⟨z24, rfl, ⟨rfl, (Or.inl ⟨by (first | decide +kernel | omega), p26⟩)⟩⟩
              ·
                refine V_tabIn 121 aE d_Mod_count_75 (by (first | decide +kernel | omega)) (by (first | decide +kernel | omega)) (by rw [c23]; rfl) (by decide) ?_
                refine V_iload_n 2 d_Mod_count_121 rfl rfl ?_
                exact V_iret rfl d_Mod_count_122 ⟨v5, rfl, ⟨rfl, (Or.inr (Or.inl ⟨by (first | decide +kernel | omega), (v5E.trans hn1)⟩))⟩⟩
              ·
                refine V_tabIn 123 aE d_Mod_count_75 (by (first | decide +kernel | omega)) (by (first | decide +kernel | omega)) (by rw [c23]; rfl) (by decide) ?_
                refine V_aload_n 0 d_Mod_count_123 rfl rfl ?_
                refine V_getR fa_Mod_7 sk_116 rfl d_Mod_count_124 ?_
                refine V_bipush 111 d_Mod_count_127 (by decide) ?_
                refine N_iald sk_117 tc_111 (by (first | decide +kernel | omega)) d_Mod_count_129 (fun z27 z27Z z27E z27e => ?_)
                have g28 : 0 ≤ z27Z ∧ z27Z ≤ 8 := inv_at hI z27E z27e rfl
                exact V_iret rfl d_Mod_count_130 ⟨z27, rfl, ⟨rfl, (Or.inr (Or.inr (Or.inl ⟨by (first | decide +kernel | omega), (z27e.symm).symm⟩)))⟩⟩
              ·
                refine V_tabIn 131 aE d_Mod_count_75 (by (first | decide +kernel | omega)) (by (first | decide +kernel | omega)) (by rw [c23]; rfl) (by decide) ?_
                refine V_aload_n 0 d_Mod_count_131 rfl rfl ?_
                refine V_getR fa_Mod_13 sk_116 rfl d_Mod_count_132 ?_
                refine V_iconst 0 d_Mod_count_135 (by decide) ?_
                refine N_zald sk_118 tc_0 (by (first | decide +kernel | omega)) d_Mod_count_136 (fun z29 z29Z z29E z29e => ?_)
                refine N_callSI [.int z29] [] cs_Mod_196 d_Mod_count_137 rfl (Nat.le_of_ble_eq_true rfl) (by decide) (by decide) (c_Mod_flag h z29 z29Z z29E) (fun z30 h31 z30Z z30E p32 => ?_)
                obtain ⟨eh31, p32⟩ := p32
                subst eh31
                refine V_aload_n 0 d_Mod_count_140 rfl rfl ?_
                refine V_getR fa_Mod_13 sk_116 rfl d_Mod_count_141 ?_
                refine V_iconst 1 d_Mod_count_144 (by decide) ?_
                refine N_zald sk_118 tc_1 (by (first | decide +kernel | omega)) d_Mod_count_145 (fun z33 z33Z z33E z33e => ?_)
                refine N_callSI [.int z33] [.int z30] cs_Mod_196 d_Mod_count_146 rfl (Nat.le_of_ble_eq_true rfl) (by decide) (by decide) (c_Mod_flag h z33 z33Z z33E) (fun z34 h35 z34Z z34E p36 => ?_)
                obtain ⟨eh35, p36⟩ := p36
                subst eh35
                refine V_iadd z30E z34E (by (first | decide +kernel | omega)) d_Mod_count_149 (fun z37 z37e z37E => ?_)
                exact V_iret rfl d_Mod_count_150 ⟨z37, rfl, ⟨rfl, (Or.inr (Or.inr (Or.inr (Or.inl ⟨by (first | decide +kernel | omega), z30, z34, FQ_of z29e rfl z29E p32, FQ_of z33e rfl z33E p36, z37e⟩))))⟩⟩
              ·
                refine V_tabIn 151 aE d_Mod_count_75 (by (first | decide +kernel | omega)) (by (first | decide +kernel | omega)) (by rw [c23]; rfl) (by decide) ?_
                refine V_aload_n 0 d_Mod_count_151 rfl rfl ?_
                refine N_getI fa_Mod_99 sk_116 rfl d_Mod_count_152 (fun z38 z38Z z38E z38e => ?_)
                have g39 : 0 ≤ z38Z ∧ z38Z ≤ 160 := inv_at hI z38E z38e rfl
                exact V_iret rfl d_Mod_count_155 ⟨z38, rfl, ⟨rfl, (Or.inr (Or.inr (Or.inr (Or.inr (Or.inl ⟨by (first | decide +kernel | omega), (z38e.symm).symm⟩)))))⟩⟩
              ·
                refine V_tabIn 156 aE d_Mod_count_75 (by (first | decide +kernel | omega)) (by (first | decide +kernel | omega)) (by rw [c23]; rfl) (by decide) ?_
                refine V_aload_n 0 d_Mod_count_156 rfl rfl ?_
                refine V_getR fa_Mod_44 sk_116 rfl d_Mod_count_157 ?_
                refine V_iconst 0 d_Mod_count_160 (by decide) ?_
                refine N_iald sk_128 tc_0 (by (first | decide +kernel | omega)) d_Mod_count_161 (fun z40 z40Z z40E z40e => ?_)
                refine V_bipush (-4) d_Mod_count_162 (by decide) ?_
                refine V_icmp_ne 172 z40E tc_m4 d_Mod_count_164 (by decide) (fun c41 => ?_) (fun c41 => ?_)
                ·
                  refine V_aload_n 0 d_Mod_count_172 rfl rfl ?_
                  refine V_getR fa_Mod_47 sk_116 rfl d_Mod_count_173 ?_
                  refine V_iconst 0 d_Mod_count_176 (by decide) ?_
                  refine N_iald sk_129 tc_0 (by (first | decide +kernel | omega)) d_Mod_count_177 (fun z42 z42Z z42E z42e => ?_)
                  have g43 : 0 ≤ z42Z ∧ z42Z ≤ 40 := inv_at hI z42E z42e rfl
                  exact V_iret rfl d_Mod_count_178 ⟨z42, rfl, ⟨rfl, (Or.inr (Or.inr (Or.inr (Or.inr (Or.inr (Or.inl ⟨by (first | decide +kernel | omega), Or.inr ⟨by rw [show h.1 128 0 = z40 from z40e.symm, z40E]; omega, (z42e.symm).symm⟩⟩))))))⟩⟩
                ·
                  refine V_bipush (-4) d_Mod_count_167 (by decide) ?_
                  refine V_goto 178 d_Mod_count_169 (by decide) ?_
                  exact V_iret rfl d_Mod_count_178 ⟨(-4), rfl, ⟨rfl, (Or.inr (Or.inr (Or.inr (Or.inr (Or.inr (Or.inl ⟨by (first | decide +kernel | omega), Or.inl ⟨by rw [show h.1 128 0 = z40 from z40e.symm, z40E]; omega, tc_m4⟩⟩))))))⟩⟩
              ·
                refine V_tabIn 179 aE d_Mod_count_75 (by (first | decide +kernel | omega)) (by (first | decide +kernel | omega)) (by rw [c23]; rfl) (by decide) ?_
                refine V_iload_n 3 d_Mod_count_179 rfl rfl ?_
                exact V_iret rfl d_Mod_count_180 ⟨v17, rfl, ⟨rfl, (Or.inr (Or.inr (Or.inr (Or.inr (Or.inr (Or.inr (Or.inl ⟨by (first | decide +kernel | omega), hs6⟩)))))))⟩⟩
            ·
              refine V_iload_n 3 d_Mod_count_55 rfl rfl ?_
              refine V_aload_n 0 d_Mod_count_56 rfl rfl ?_
              refine V_getR fa_Mod_7 sk_116 rfl d_Mod_count_57 ?_
              refine V_bipush 80 d_Mod_count_60 (by decide) ?_
              refine V_iload d_Mod_count_62 rfl ?_
              refine V_iadd tc_80 v18E (by (first | decide +kernel | omega)) d_Mod_count_64 (fun z44 z44e z44E => ?_)
              refine N_iald sk_117 z44E (by (first | decide +kernel | omega)) d_Mod_count_65 (fun z45 z45Z z45E z45e => ?_)
              refine N_iaddw d_Mod_count_66 (fun z46 z46Z z46E z46e => ?_)
              refine V_istore_n 3 [some (.ref 116), some (.int a), some (.int v5), some (.int z46), some (.int v18)] d_Mod_count_67 rfl (by decide) rfl rfl ?_
              obtain ⟨z47, z47E, z47e⟩ : ∃ y : Int32, y.toInt = v18Z + 1 ∧ y = v18 + Int32.ofInt 1 := ⟨_, ti_add v18E (by decide) (by (first | decide +kernel | omega)), rfl⟩
              refine V_iinc 4 [some (.ref 116), some (.int a), some (.int v5), some (.int z46), some (.int z47)] d_Mod_count_68 rfl z47e.symm (by decide) rfl rfl ?_
              refine V_goto 49 d_Mod_count_71 (by decide) ?_
              exact ihL15 z46 z46Z z47 ((v18Z + 1)) z46E z47E (by (first | decide +kernel | omega)) (sm_s (by (first | decide +kernel | omega)) (by assumption) (z45e.trans (by show _ = h.1 117 (80 + (v18Z).toNat); rw [show (80 + v18Z).toNat = 80 + (v18Z).toNat by (first | decide +kernel | omega)])) z46e) (by (first | decide +kernel | omega))
        exact L15 (Int.toNat ((4 - 0 : Int) + 1)) 0 0 0 0 tc_0 tc_0 (by (first | decide +kernel | omega)) rfl (by (first | decide +kernel | omega))
      ·
        refine V_iload_n 2 d_Mod_count_16 rfl rfl ?_
        refine V_aload_n 0 d_Mod_count_17 rfl rfl ?_
        refine V_getR fa_Mod_7 sk_116 rfl d_Mod_count_18 ?_
        refine V_bipush 64 d_Mod_count_21 (by decide) ?_
        refine V_iload d_Mod_count_23 rfl ?_
        refine V_iadd tc_64 v6E (by (first | decide +kernel | omega)) d_Mod_count_25 (fun z48 z48e z48E => ?_)
        refine N_iald sk_117 z48E (by (first | decide +kernel | omega)) d_Mod_count_26 (fun z49 z49Z z49E z49e => ?_)
        refine V_if_le 34 z49E d_Mod_count_27 (by decide) (fun c50 => ?_) (fun c50 => ?_)
        ·
          refine V_iconst 0 d_Mod_count_34 (by decide) ?_
          refine N_callSI [.int 0] [.int v5] cs_Mod_196 d_Mod_count_35 rfl (Nat.le_of_ble_eq_true rfl) (by decide) (by decide) (c_Mod_flag h 0 0 tc_0) (fun z51 h52 z51Z z51E p53 => ?_)
          obtain ⟨eh52, p53⟩ := p53
          subst eh52
          refine V_iadd v5E z51E (by (first | decide +kernel | omega)) d_Mod_count_38 (fun z54 z54e z54E => ?_)
          refine V_istore_n 2 [some (.ref 116), some (.int a), some (.int z54), some (.int 0), some (.int v6)] d_Mod_count_39 rfl (by decide) rfl rfl ?_
          obtain ⟨z55, z55E, z55e⟩ : ∃ y : Int32, y.toInt = v6Z + 1 ∧ y = v6 + Int32.ofInt 1 := ⟨_, ti_add v6E (by decide) (by (first | decide +kernel | omega)), rfl⟩
          refine V_iinc 4 [some (.ref 116), some (.int a), some (.int z54), some (.int 0), some (.int z55)] d_Mod_count_40 rfl z55e.symm (by decide) rfl rfl ?_
          refine V_goto 7 d_Mod_count_43 (by decide) ?_
          exact ihL3 z54 ((v5Z + z51Z)) z55 ((v6Z + 1)) z54E z55E (by (first | decide +kernel | omega)) (ct_s (by (first | decide +kernel | omega)) (by assumption) (BQ_fm (by (first | decide +kernel | omega)) z49e z49E (Or.inr ⟨rfl, by (first | decide +kernel | omega)⟩) p53 z51E)) (by (first | decide +kernel | omega)) (by (first | decide +kernel | omega))
        ·
          refine V_iconst 1 d_Mod_count_30 (by decide) ?_
          refine V_goto 35 d_Mod_count_31 (by decide) ?_
          refine N_callSI [.int 1] [.int v5] cs_Mod_196 d_Mod_count_35 rfl (Nat.le_of_ble_eq_true rfl) (by decide) (by decide) (c_Mod_flag h 1 1 tc_1) (fun z56 h57 z56Z z56E p58 => ?_)
          obtain ⟨eh57, p58⟩ := p58
          subst eh57
          refine V_iadd v5E z56E (by (first | decide +kernel | omega)) d_Mod_count_38 (fun z59 z59e z59E => ?_)
          refine V_istore_n 2 [some (.ref 116), some (.int a), some (.int z59), some (.int 0), some (.int v6)] d_Mod_count_39 rfl (by decide) rfl rfl ?_
          obtain ⟨z60, z60E, z60e⟩ : ∃ y : Int32, y.toInt = v6Z + 1 ∧ y = v6 + Int32.ofInt 1 := ⟨_, ti_add v6E (by decide) (by (first | decide +kernel | omega)), rfl⟩
          refine V_iinc 4 [some (.ref 116), some (.int a), some (.int z59), some (.int 0), some (.int z60)] d_Mod_count_40 rfl z60e.symm (by decide) rfl rfl ?_
          refine V_goto 7 d_Mod_count_43 (by decide) ?_
          exact ihL3 z59 ((v5Z + z56Z)) z60 ((v6Z + 1)) z59E z60E (by (first | decide +kernel | omega)) (ct_s (by (first | decide +kernel | omega)) (by assumption) (BQ_fm (by (first | decide +kernel | omega)) z49e z49E (Or.inl ⟨rfl, by (first | decide +kernel | omega)⟩) p58 z56E)) (by (first | decide +kernel | omega)) (by (first | decide +kernel | omega))
  exact L3 (Int.toNat ((16 - 0 : Int) + 1)) 0 0 0 0 tc_0 tc_0 (by (first | decide +kernel | omega)) rfl (by (first | decide +kernel | omega)) (by (first | decide +kernel | omega))
