abbrev q_Rod_testX (h : Hp) (o : Int32) (oZ : Int) (a : Int32) (aZ : Int) (w : Int32) (wZ : Int) (g : Int32) (gZ : Int) (t : Int32) (tZ : Int) : Option Value → Hp → Prop := pInt (fun r h' => h = h' ∧ (TSa ((0 ≤ oZ ∧ oZ ≤ 3) ∧ (aZ = 0 ∨ aZ = 1)) r (tsr (ts (wCf (gC h tZ.toNat oZ)) (cP (fun j => j < 21 ∧ ftC h (rN j) (rR j) tZ.toNat) 32 : Nat) (2 * (wZ * gZ)).toNat) aZ)))
set_option maxRecDepth 100000 in
theorem c_Rod_testX (h : Hp) (hI : Inv h) (o : Int32) (oZ : Int) (oE : o.toInt = oZ) (a : Int32) (aZ : Int) (aE : a.toInt = aZ) (w : Int32) (wZ : Int) (wE : w.toInt = wZ) (wK : h.1 1 0 = w) (g : Int32) (gZ : Int) (gE : g.toInt = gZ) (gK : h.1 1 1 = g) (t : Int32) (tZ : Int) (tE : t.toInt = tZ) (tK : h.1 12 4 = t) (hy0 : ∀ i : Nat, i < 16 → 0 ≤ (h.1 3 i).toInt ∧ (h.1 3 i).toInt ≤ 1) (hy1 : ∀ i : Nat, i < 8 → (i : Int) < (h.1 12 4).toInt → (0 ≤ (h.1 16 i).toInt ∧ (h.1 16 i).toInt ≤ 1) ∧ 0 ≤ (h.1 15 i).toInt) : Ct y_Rod_test b_Rod_test 11 (some .int) 3 75 [.ref 85, .int o, .int a] h (q_Rod_testX h o oZ a aZ w wZ g gZ t tZ) := by
  refine ct_ow R_Rod [some (.ref 85), some (.int o), some (.int a), none, none, none, none, none, none, none, none] rfl (by decide) rfl (Nat.le_of_ble_eq_true rfl) ?_
  have f0 : fr [] h h := fr_rf
  have g1 : 2 ≤ wZ ∧ wZ ≤ 4 := inv_at hI wE wK.symm rfl
  have g2 : 2 ≤ gZ ∧ gZ ≤ 4 := inv_at hI gE gK.symm rfl
  have g3 : 0 ≤ tZ ∧ tZ ≤ 8 := inv_at hI tE tK.symm rfl
  have m24 := mul24 (A := wZ) (B := gZ) (by omega) (by omega)
  refine V_iload_n 1 d_Rod_test_0 rfl rfl ?_
  refine N_callSI [.int o] [] cs_Rod_151 d_Rod_test_1 rfl (Nat.le_of_ble_eq_true rfl) (by decide) (by decide) (c_Rod_isOwner h o oZ oE) (fun z4 h5 z4Z z4E p6 => ?_)
  obtain ⟨eh5, p6⟩ := p6
  subst eh5
  refine V_if_eq 16 z4E d_Rod_test_4 (by decide) (fun c7 => ?_) (fun c7 => ?_)
  ·
    refine V_iconst (-1) d_Rod_test_16 (by decide) ?_
    exact V_iret rfl d_Rod_test_17 ⟨(-1), rfl, ⟨rfl, (Or.inr ⟨by omega, tc_m1⟩)⟩⟩
  ·
    refine V_iload_n 2 d_Rod_test_7 rfl rfl ?_
    refine V_if_eq 18 aE d_Rod_test_8 (by decide) (fun c8 => ?_) (fun c8 => ?_)
    ·
      refine V_aload_n 0 d_Rod_test_18 rfl rfl ?_
      refine V_getR fa_Rod_12 sk_85 rfl d_Rod_test_19 ?_
      refine N_callVI [] [] cv_Rod_189 sk_0 rfl d_Rod_test_22 rfl (Nat.le_of_ble_eq_true rfl) (by decide) (by decide) (c_County_fittingRodsX_0 h hI t tZ tE tK hy0 hy1) (fun z9 h10 z9Z z9E p11 => ?_)
      obtain ⟨eh10, p11⟩ := p11
      subst eh10
      refine V_istore_n 3 [some (.ref 85), some (.int o), some (.int a), some (.int z9), none, none, none, none, none, none, none] d_Rod_test_25 rfl (by decide) rfl rfl ?_
      refine V_iload_n 3 d_Rod_test_26 rfl rfl ?_
      refine N_callSI [.int z9] [] cs_Rod_199 d_Rod_test_27 rfl (Nat.le_of_ble_eq_true rfl) (by decide) (by decide) (c_Int_bitCountX h z9 z9Z z9E) (fun z12 h13 z12Z z12E p14 => ?_)
      obtain ⟨eh13, p14⟩ := p14
      subst eh13
      have hnow : z12Z = (cP (fun j => j < 21 ∧ ftC h (rN j) (rR j) tZ.toNat) 32 : Nat) := z12E.symm.trans (p14.trans (congrArg (fun q : Nat => (q : Int)) (BP_ct p11)))
      have hnb := cP_le (fun j => j < 21 ∧ ftC h (rN j) (rR j) tZ.toNat) 32
      refine V_istore 4 [some (.ref 85), some (.int o), some (.int a), some (.int z9), some (.int z12), none, none, none, none, none, none] d_Rod_test_30 (by decide) rfl rfl ?_
      refine V_iload d_Rod_test_32 rfl ?_
      refine V_istore 5 [some (.ref 85), some (.int o), some (.int a), some (.int z9), some (.int z12), some (.int z12), none, none, none, none, none] d_Rod_test_34 (by decide) rfl rfl ?_
      refine V_bipush (-4) d_Rod_test_36 (by decide) ?_
      refine V_istore 6 [some (.ref 85), some (.int o), some (.int a), some (.int z9), some (.int z12), some (.int z12), some (.int (-4)), none, none, none, none] d_Rod_test_38 (by decide) rfl rfl ?_
      refine V_iconst 0 d_Rod_test_40 (by decide) ?_
      refine V_istore 7 [some (.ref 85), some (.int o), some (.int a), some (.int z9), some (.int z12), some (.int z12), some (.int (-4)), some (.int 0), none, none, none] d_Rod_test_41 (by decide) rfl rfl ?_
      have L15 : ∀ (nn : Nat) (v17 : Int32) (v17Z : Int) (v18 : Int32) (v18Z : Int) (v19 : Int32) (v19Z : Int), v17.toInt = v17Z → v18.toInt = v18Z → v19.toInt = v19Z → 0 ≤ v19Z ∧ v19Z ≤ wZ * gZ → v17Z = (ts (wCf (gC h tZ.toNat oZ)) (cP (fun j => j < 21 ∧ ftC h (rN j) (rR j) tZ.toNat) 32 : Nat) (2 * (v19Z)).toNat).1 → v18Z = (ts (wCf (gC h tZ.toNat oZ)) (cP (fun j => j < 21 ∧ ftC h (rN j) (rR j) tZ.toNat) 32 : Nat) (2 * (v19Z)).toNat).2 → 16 - v19Z < (nn : Int) → V R_Rod b_Rod_test 11 (some .int) 3 75 (q_Rod_testX h o oZ a aZ w wZ g gZ t tZ) h 43 [some (.ref 85), some (.int o), some (.int a), some (.int z9), some (.int z12), some (.int v17), some (.int v18), some (.int v19), none, none, none] [] := by
        intro nn
        induction nn with
        | zero => intro v17 v17Z v18 v18Z v19 v19Z v17E v18E v19E q20 q21 q22 hm23; exact absurd hm23 (by omega)
        | succ nn ihL15 =>
          intro v17 v17Z v18 v18Z v19 v19Z v17E v18E v19E q20 q21 q22 hm23
          refine V_iload d_Rod_test_43 rfl ?_
          refine V_aload_n 0 d_Rod_test_45 rfl rfl ?_
          refine V_getR fa_Rod_12 sk_85 rfl d_Rod_test_46 ?_
          refine V_getR fa_Rod_91 sk_0 rfl d_Rod_test_49 ?_
          refine N_callVI [] [.int v19] cv_Rod_204 sk_1 rfl d_Rod_test_52 rfl (Nat.le_of_ble_eq_true rfl) (by decide) (by decide) (c_Land_cells_0 h hI w wZ wE wK g gZ gE gK) (fun z24 h25 z24Z z24E p26 => ?_)
          obtain ⟨eh25, p26⟩ := p26
          subst eh25
          refine V_icmp_ge 134 v19E z24E d_Rod_test_55 (by decide) (fun c27 => ?_) (fun c27 => ?_)
          ·
            refine V_iload d_Rod_test_134 rfl ?_
            refine V_bipush (-4) d_Rod_test_136 (by decide) ?_
            refine V_icmp_eq 145 v18E tc_m4 d_Rod_test_138 (by decide) (fun c28 => ?_) (fun c28 => ?_)
            ·
              refine V_iload d_Rod_test_145 rfl ?_
              refine V_goto 152 d_Rod_test_147 (by decide) ?_
              exact V_iret rfl d_Rod_test_152 ⟨v18, rfl, ⟨rfl, (Or.inl ⟨by omega, tsr_1 (A := v17Z) (B := v18Z) (by rw [show (2 * (wZ * gZ)).toNat = (2 * (v19Z)).toNat by omega]; assumption) (by rw [show (2 * (wZ * gZ)).toNat = (2 * (v19Z)).toNat by omega]; assumption) (by (try rw [v18E]); omega)⟩)⟩⟩
            ·
              refine V_iload_n 2 d_Rod_test_141 rfl rfl ?_
              refine V_if_ne 150 aE d_Rod_test_142 (by decide) (fun c29 => ?_) (fun c29 => ?_)
              ·
                refine V_iload d_Rod_test_150 rfl ?_
                exact V_iret rfl d_Rod_test_152 ⟨v17, rfl, ⟨rfl, (Or.inl ⟨by omega, tsr_1 (A := v17Z) (B := v18Z) (by rw [show (2 * (wZ * gZ)).toNat = (2 * (v19Z)).toNat by omega]; assumption) (by rw [show (2 * (wZ * gZ)).toNat = (2 * (v19Z)).toNat by omega]; assumption) (by (try rw [v17E]); omega)⟩)⟩⟩
              ·
                refine V_iload d_Rod_test_145 rfl ?_
                refine V_goto 152 d_Rod_test_147 (by decide) ?_
                exact V_iret rfl d_Rod_test_152 ⟨v18, rfl, ⟨rfl, (Or.inl ⟨by omega, tsr_1 (A := v17Z) (B := v18Z) (by rw [show (2 * (wZ * gZ)).toNat = (2 * (v19Z)).toNat by omega]; assumption) (by rw [show (2 * (wZ * gZ)).toNat = (2 * (v19Z)).toNat by omega]; assumption) (by (try rw [v18E]); omega)⟩)⟩⟩
          ·
            refine V_iconst 1 d_Rod_test_58 (by decide) ?_
            refine V_istore 8 [some (.ref 85), some (.int o), some (.int a), some (.int z9), some (.int z12), some (.int v17), some (.int v18), some (.int v19), some (.int 1), none, none] d_Rod_test_59 (by decide) rfl rfl ?_
            have L30 : ∀ (nn : Nat) (v32 : Int32) (v32Z : Int) (v33 : Int32) (v33Z : Int) (v34 : Int32) (v34Z : Int), v32.toInt = v32Z → v33.toInt = v33Z → v34.toInt = v34Z → 1 ≤ v34Z ∧ v34Z ≤ 3 → v32Z = (ts (wCf (gC h tZ.toNat oZ)) (cP (fun j => j < 21 ∧ ftC h (rN j) (rR j) tZ.toNat) 32 : Nat) (2 * (v19Z) + v34Z - 1).toNat).1 → v33Z = (ts (wCf (gC h tZ.toNat oZ)) (cP (fun j => j < 21 ∧ ftC h (rN j) (rR j) tZ.toNat) 32 : Nat) (2 * (v19Z) + v34Z - 1).toNat).2 → 3 - v34Z < (nn : Int) → V R_Rod b_Rod_test 11 (some .int) 3 75 (q_Rod_testX h o oZ a aZ w wZ g gZ t tZ) h 61 [some (.ref 85), some (.int o), some (.int a), some (.int z9), some (.int z12), some (.int v32), some (.int v33), some (.int v19), some (.int v34), none, none] [] := by
              intro nn
              induction nn with
              | zero => intro v32 v32Z v33 v33Z v34 v34Z v32E v33E v34E q35 q36 q37 hm38; exact absurd hm38 (by omega)
              | succ nn ihL30 =>
                intro v32 v32Z v33 v33Z v34 v34Z v32E v33E v34E q35 q36 q37 hm38
                refine V_iload d_Rod_test_61 rfl ?_
                refine V_iconst 2 d_Rod_test_63 (by decide) ?_
                refine V_icmp_gt 128 v34E tc_2 d_Rod_test_64 (by decide) (fun c39 => ?_) (fun c39 => ?_)
                ·
                  obtain ⟨z40, z40E, z40e⟩ : ∃ y : Int32, y.toInt = v19Z + 1 ∧ y = v19 + Int32.ofInt 1 := ⟨_, ti_add v19E (by decide) (by omega), rfl⟩
                  refine V_iinc 7 [some (.ref 85), some (.int o), some (.int a), some (.int z9), some (.int z12), some (.int v32), some (.int v33), some (.int z40), some (.int v34), none, none] d_Rod_test_128 rfl z40e.symm (by decide) rfl rfl ?_
                  refine V_goto 43 d_Rod_test_131 (by decide) ?_
                  refine V_drop 8 [some (.ref 85), some (.int o), some (.int a), some (.int z9), some (.int z12), some (.int v32), some (.int v33), some (.int z40), none, none, none] rfl ?_
                  exact ihL15 v32 v32Z v33 v33Z z40 ((v19Z + 1)) v32E v33E z40E (by omega) (by rw [show (2 * ((v19Z + 1))).toNat = (2 * (v19Z) + v34Z - 1).toNat by omega]; assumption) (by rw [show (2 * ((v19Z + 1))).toNat = (2 * (v19Z) + v34Z - 1).toNat by omega]; assumption) (by omega)
                ·
                  refine V_iload_n 3 d_Rod_test_67 rfl rfl ?_
                  refine V_aload_n 0 d_Rod_test_68 rfl rfl ?_
                  refine V_getR fa_Rod_12 sk_85 rfl d_Rod_test_69 ?_
                  refine V_getR fa_Rod_91 sk_0 rfl d_Rod_test_72 ?_
                  refine V_iload d_Rod_test_75 rfl ?_
                  refine V_iload_n 1 d_Rod_test_77 rfl rfl ?_
                  refine V_iload d_Rod_test_78 rfl ?_
                  refine N_callVI [.int v19, .int o, .int v34] [.int z9] cv_Rod_207 sk_1 rfl d_Rod_test_80 rfl (Nat.le_of_ble_eq_true rfl) (by decide) (by decide) (c_Land_twitchingRodsX_0 h hI v19 v19Z v19E o oZ oE v34 v34Z v34E (by omega) (by omega) hy0) (fun z41 h42 z41Z z41E p43 => ?_)
                  obtain ⟨eh42, p43⟩ := p43
                  subst eh42
                  refine N_iand d_Rod_test_83 (fun z44 z44Z z44E z44e => ?_)
                  have B45 := BP_and p11 p43
                  rw [← z44e] at B45
                  refine N_callSI [.int z44] [] cs_Rod_199 d_Rod_test_84 rfl (Nat.le_of_ble_eq_true rfl) (by decide) (by decide) (c_Int_bitCountX h z44 z44Z z44E) (fun z46 h47 z46Z z46E p48 => ?_)
                  obtain ⟨eh47, p48⟩ := p48
                  subst eh47
                  have hyes : z46Z = (cP (fun j => (j < 21 ∧ ftC h (rN j) (rR j) tZ.toNat) ∧ j < 21 ∧ twC h (rN j) (rR j) (v19Z).toNat oZ v34Z) 32 : Nat) := z46E.symm.trans (p48.trans (congrArg (fun q : Nat => (q : Int)) (BP_ct B45)))
                  have hyb := cP_le (fun j => (j < 21 ∧ ftC h (rN j) (rR j) tZ.toNat) ∧ j < 21 ∧ twC h (rN j) (rR j) (v19Z).toNat oZ v34Z) 32
                  refine V_istore 9 [some (.ref 85), some (.int o), some (.int a), some (.int z9), some (.int z12), some (.int v32), some (.int v33), some (.int v19), some (.int v34), some (.int z46), none] d_Rod_test_87 (by decide) rfl rfl ?_
                  refine V_iload d_Rod_test_89 rfl ?_
                  refine V_iload d_Rod_test_91 rfl ?_
                  refine V_iload d_Rod_test_93 rfl ?_
                  refine V_isub z12E z46E (by omega) d_Rod_test_95 (fun z49 z49e z49E => ?_)
                  refine N_max z46E z49E wm_Rod_211 d_Rod_test_96 (Nat.le_of_ble_eq_true rfl) (by decide) wmax1 wM2 wmax3 (fun z50 z50Z z50E z50e z50g => ?_)
                  have hx9 : z50Z = gC h tZ.toNat oZ (v19Z).toNat v34Z := by unfold gC; rw [← hyes, ← hnow]; exact mx2_1 (by omega)
                  refine V_istore 10 [some (.ref 85), some (.int o), some (.int a), some (.int z9), some (.int z12), some (.int v32), some (.int v33), some (.int v19), some (.int v34), some (.int z46), some (.int z50)] d_Rod_test_99 (by decide) rfl rfl ?_
                  refine V_iload d_Rod_test_101 rfl ?_
                  refine V_iload d_Rod_test_103 rfl ?_
                  refine V_icmp_ge 122 z50E v32E d_Rod_test_105 (by decide) (fun c51 => ?_) (fun c51 => ?_)
                  ·
                    have hs9 := ts_n (g := gC h tZ.toNat oZ) (f0 := (cP (fun j => j < 21 ∧ ftC h (rN j) (rR j) tZ.toNat) 32 : Nat)) (C := v19Z) (S := v34Z) (by omega) (by omega) (by assumption) (by assumption) hx9 (by omega)
                    obtain ⟨z52, z52E, z52e⟩ : ∃ y : Int32, y.toInt = v34Z + 1 ∧ y = v34 + Int32.ofInt 1 := ⟨_, ti_add v34E (by decide) (by omega), rfl⟩
                    refine V_iinc 8 [some (.ref 85), some (.int o), some (.int a), some (.int z9), some (.int z12), some (.int v32), some (.int v33), some (.int v19), some (.int z52), some (.int z46), some (.int z50)] d_Rod_test_122 rfl z52e.symm (by decide) rfl rfl ?_
                    refine V_goto 61 d_Rod_test_125 (by decide) ?_
                    refine V_drop 9 [some (.ref 85), some (.int o), some (.int a), some (.int z9), some (.int z12), some (.int v32), some (.int v33), some (.int v19), some (.int z52), none, some (.int z50)] rfl ?_
                    refine V_drop 10 [some (.ref 85), some (.int o), some (.int a), some (.int z9), some (.int z12), some (.int v32), some (.int v33), some (.int v19), some (.int z52), none, none] rfl ?_
                    exact ihL30 v32 v32Z v33 v33Z z52 ((v34Z + 1)) v32E v33E z52E (by omega) hs9.1 hs9.2 (by omega)
                  ·
                    have hs9 := ts_y (g := gC h tZ.toNat oZ) (f0 := (cP (fun j => j < 21 ∧ ftC h (rN j) (rR j) tZ.toNat) 32 : Nat)) (C := v19Z) (S := v34Z) (by omega) (by omega) (by assumption) hx9 (by omega)
                    refine V_iload d_Rod_test_108 rfl ?_
                    refine V_istore 5 [some (.ref 85), some (.int o), some (.int a), some (.int z9), some (.int z12), some (.int z50), some (.int v33), some (.int v19), some (.int v34), some (.int z46), some (.int z50)] d_Rod_test_110 (by decide) rfl rfl ?_
                    refine V_bipush 10 d_Rod_test_112 (by decide) ?_
                    refine V_iload d_Rod_test_114 rfl ?_
                    refine V_imul tc_10 v19E (by omega) d_Rod_test_116 (fun z53 z53e z53E => ?_)
                    refine V_iload d_Rod_test_117 rfl ?_
                    refine V_iadd z53E v34E (by omega) d_Rod_test_119 (fun z54 z54e z54E => ?_)
                    refine V_istore 6 [some (.ref 85), some (.int o), some (.int a), some (.int z9), some (.int z12), some (.int z50), some (.int z54), some (.int v19), some (.int v34), some (.int z46), some (.int z50)] d_Rod_test_120 (by decide) rfl rfl ?_
                    obtain ⟨z55, z55E, z55e⟩ : ∃ y : Int32, y.toInt = v34Z + 1 ∧ y = v34 + Int32.ofInt 1 := ⟨_, ti_add v34E (by decide) (by omega), rfl⟩
                    refine V_iinc 8 [some (.ref 85), some (.int o), some (.int a), some (.int z9), some (.int z12), some (.int z50), some (.int z54), some (.int v19), some (.int z55), some (.int z46), some (.int z50)] d_Rod_test_122 rfl z55e.symm (by decide) rfl rfl ?_
                    refine V_goto 61 d_Rod_test_125 (by decide) ?_
                    refine V_drop 9 [some (.ref 85), some (.int o), some (.int a), some (.int z9), some (.int z12), some (.int z50), some (.int z54), some (.int v19), some (.int z55), none, some (.int z50)] rfl ?_
                    refine V_drop 10 [some (.ref 85), some (.int o), some (.int a), some (.int z9), some (.int z12), some (.int z50), some (.int z54), some (.int v19), some (.int z55), none, none] rfl ?_
                    exact ihL30 z50 z50Z z54 (((10 * v19Z) + v34Z)) z55 ((v34Z + 1)) z50E z54E z55E (by omega) hs9.1 hs9.2 (by omega)
            exact L30 (Int.toNat ((3 - 1 : Int) + 1)) v17 v17Z v18 v18Z 1 1 v17E v18E tc_1 (by omega) (by rw [show (2 * (v19Z) + 1 - 1).toNat = (2 * (v19Z)).toNat by omega]; assumption) (by rw [show (2 * (v19Z) + 1 - 1).toNat = (2 * (v19Z)).toNat by omega]; assumption) (by omega)
      exact L15 (Int.toNat ((16 - 0 : Int) + 1)) z12 z12Z (-4) ((-4)) 0 0 z12E tc_m4 tc_0 (by omega) hnow rfl (by omega)
    ·
      refine V_iload_n 2 d_Rod_test_11 rfl rfl ?_
      refine V_iconst 1 d_Rod_test_12 (by decide) ?_
      refine V_icmp_eq 18 aE tc_1 d_Rod_test_13 (by decide) (fun c56 => ?_) (fun c56 => ?_)
      ·
        refine V_aload_n 0 d_Rod_test_18 rfl rfl ?_
        refine V_getR fa_Rod_12 sk_85 rfl d_Rod_test_19 ?_
        refine N_callVI [] [] cv_Rod_189 sk_0 rfl d_Rod_test_22 rfl (Nat.le_of_ble_eq_true rfl) (by decide) (by decide) (c_County_fittingRodsX_0 h hI t tZ tE tK hy0 hy1) (fun z57 h58 z57Z z57E p59 => ?_)
        obtain ⟨eh58, p59⟩ := p59
        subst eh58
        refine V_istore_n 3 [some (.ref 85), some (.int o), some (.int a), some (.int z57), none, none, none, none, none, none, none] d_Rod_test_25 rfl (by decide) rfl rfl ?_
        refine V_iload_n 3 d_Rod_test_26 rfl rfl ?_
        refine N_callSI [.int z57] [] cs_Rod_199 d_Rod_test_27 rfl (Nat.le_of_ble_eq_true rfl) (by decide) (by decide) (c_Int_bitCountX h z57 z57Z z57E) (fun z60 h61 z60Z z60E p62 => ?_)
        obtain ⟨eh61, p62⟩ := p62
        subst eh61
        have hnow : z60Z = (cP (fun j => j < 21 ∧ ftC h (rN j) (rR j) tZ.toNat) 32 : Nat) := z60E.symm.trans (p62.trans (congrArg (fun q : Nat => (q : Int)) (BP_ct p59)))
        have hnb := cP_le (fun j => j < 21 ∧ ftC h (rN j) (rR j) tZ.toNat) 32
        refine V_istore 4 [some (.ref 85), some (.int o), some (.int a), some (.int z57), some (.int z60), none, none, none, none, none, none] d_Rod_test_30 (by decide) rfl rfl ?_
        refine V_iload d_Rod_test_32 rfl ?_
        refine V_istore 5 [some (.ref 85), some (.int o), some (.int a), some (.int z57), some (.int z60), some (.int z60), none, none, none, none, none] d_Rod_test_34 (by decide) rfl rfl ?_
        refine V_bipush (-4) d_Rod_test_36 (by decide) ?_
        refine V_istore 6 [some (.ref 85), some (.int o), some (.int a), some (.int z57), some (.int z60), some (.int z60), some (.int (-4)), none, none, none, none] d_Rod_test_38 (by decide) rfl rfl ?_
        refine V_iconst 0 d_Rod_test_40 (by decide) ?_
        refine V_istore 7 [some (.ref 85), some (.int o), some (.int a), some (.int z57), some (.int z60), some (.int z60), some (.int (-4)), some (.int 0), none, none, none] d_Rod_test_41 (by decide) rfl rfl ?_
        have L63 : ∀ (nn : Nat) (v65 : Int32) (v65Z : Int) (v66 : Int32) (v66Z : Int) (v67 : Int32) (v67Z : Int), v65.toInt = v65Z → v66.toInt = v66Z → v67.toInt = v67Z → 0 ≤ v67Z ∧ v67Z ≤ wZ * gZ → v65Z = (ts (wCf (gC h tZ.toNat oZ)) (cP (fun j => j < 21 ∧ ftC h (rN j) (rR j) tZ.toNat) 32 : Nat) (2 * (v67Z)).toNat).1 → v66Z = (ts (wCf (gC h tZ.toNat oZ)) (cP (fun j => j < 21 ∧ ftC h (rN j) (rR j) tZ.toNat) 32 : Nat) (2 * (v67Z)).toNat).2 → 16 - v67Z < (nn : Int) → V R_Rod b_Rod_test 11 (some .int) 3 75 (q_Rod_testX h o oZ a aZ w wZ g gZ t tZ) h 43 [some (.ref 85), some (.int o), some (.int a), some (.int z57), some (.int z60), some (.int v65), some (.int v66), some (.int v67), none, none, none] [] := by
          intro nn
          induction nn with
          | zero => intro v65 v65Z v66 v66Z v67 v67Z v65E v66E v67E q68 q69 q70 hm71; exact absurd hm71 (by omega)
          | succ nn ihL63 =>
            intro v65 v65Z v66 v66Z v67 v67Z v65E v66E v67E q68 q69 q70 hm71
            refine V_iload d_Rod_test_43 rfl ?_
            refine V_aload_n 0 d_Rod_test_45 rfl rfl ?_
            refine V_getR fa_Rod_12 sk_85 rfl d_Rod_test_46 ?_
            refine V_getR fa_Rod_91 sk_0 rfl d_Rod_test_49 ?_
            refine N_callVI [] [.int v67] cv_Rod_204 sk_1 rfl d_Rod_test_52 rfl (Nat.le_of_ble_eq_true rfl) (by decide) (by decide) (c_Land_cells_0 h hI w wZ wE wK g gZ gE gK) (fun z72 h73 z72Z z72E p74 => ?_)
            obtain ⟨eh73, p74⟩ := p74
            subst eh73
            refine V_icmp_ge 134 v67E z72E d_Rod_test_55 (by decide) (fun c75 => ?_) (fun c75 => ?_)
            ·
              refine V_iload d_Rod_test_134 rfl ?_
              refine V_bipush (-4) d_Rod_test_136 (by decide) ?_
              refine V_icmp_eq 145 v66E tc_m4 d_Rod_test_138 (by decide) (fun c76 => ?_) (fun c76 => ?_)
              ·
                refine V_iload d_Rod_test_145 rfl ?_
                refine V_goto 152 d_Rod_test_147 (by decide) ?_
                exact V_iret rfl d_Rod_test_152 ⟨v66, rfl, ⟨rfl, (Or.inl ⟨by omega, tsr_1 (A := v65Z) (B := v66Z) (by rw [show (2 * (wZ * gZ)).toNat = (2 * (v67Z)).toNat by omega]; assumption) (by rw [show (2 * (wZ * gZ)).toNat = (2 * (v67Z)).toNat by omega]; assumption) (by (try rw [v66E]); omega)⟩)⟩⟩
              ·
                refine V_iload_n 2 d_Rod_test_141 rfl rfl ?_
                refine V_if_ne 150 aE d_Rod_test_142 (by decide) (fun c77 => ?_) (fun c77 => ?_)
                ·
                  refine V_iload d_Rod_test_150 rfl ?_
                  exact V_iret rfl d_Rod_test_152 ⟨v65, rfl, ⟨rfl, (Or.inl ⟨by omega, tsr_1 (A := v65Z) (B := v66Z) (by rw [show (2 * (wZ * gZ)).toNat = (2 * (v67Z)).toNat by omega]; assumption) (by rw [show (2 * (wZ * gZ)).toNat = (2 * (v67Z)).toNat by omega]; assumption) (by (try rw [v65E]); omega)⟩)⟩⟩
                ·
                  refine V_iload d_Rod_test_145 rfl ?_
                  refine V_goto 152 d_Rod_test_147 (by decide) ?_
                  exact V_iret rfl d_Rod_test_152 ⟨v66, rfl, ⟨rfl, (Or.inl ⟨by omega, tsr_1 (A := v65Z) (B := v66Z) (by rw [show (2 * (wZ * gZ)).toNat = (2 * (v67Z)).toNat by omega]; assumption) (by rw [show (2 * (wZ * gZ)).toNat = (2 * (v67Z)).toNat by omega]; assumption) (by (try rw [v66E]); omega)⟩)⟩⟩
            ·
              refine V_iconst 1 d_Rod_test_58 (by decide) ?_
              refine V_istore 8 [some (.ref 85), some (.int o), some (.int a), some (.int z57), some (.int z60), some (.int v65), some (.int v66), some (.int v67), some (.int 1), none, none] d_Rod_test_59 (by decide) rfl rfl ?_
              have L78 : ∀ (nn : Nat) (v80 : Int32) (v80Z : Int) (v81 : Int32) (v81Z : Int) (v82 : Int32) (v82Z : Int), v80.toInt = v80Z → v81.toInt = v81Z → v82.toInt = v82Z → 1 ≤ v82Z ∧ v82Z ≤ 3 → v80Z = (ts (wCf (gC h tZ.toNat oZ)) (cP (fun j => j < 21 ∧ ftC h (rN j) (rR j) tZ.toNat) 32 : Nat) (2 * (v67Z) + v82Z - 1).toNat).1 → v81Z = (ts (wCf (gC h tZ.toNat oZ)) (cP (fun j => j < 21 ∧ ftC h (rN j) (rR j) tZ.toNat) 32 : Nat) (2 * (v67Z) + v82Z - 1).toNat).2 → 3 - v82Z < (nn : Int) → V R_Rod b_Rod_test 11 (some .int) 3 75 (q_Rod_testX h o oZ a aZ w wZ g gZ t tZ) h 61 [some (.ref 85), some (.int o), some (.int a), some (.int z57), some (.int z60), some (.int v80), some (.int v81), some (.int v67), some (.int v82), none, none] [] := by
                intro nn
                induction nn with
                | zero => intro v80 v80Z v81 v81Z v82 v82Z v80E v81E v82E q83 q84 q85 hm86; exact absurd hm86 (by omega)
                | succ nn ihL78 =>
                  intro v80 v80Z v81 v81Z v82 v82Z v80E v81E v82E q83 q84 q85 hm86
                  refine V_iload d_Rod_test_61 rfl ?_
                  refine V_iconst 2 d_Rod_test_63 (by decide) ?_
                  refine V_icmp_gt 128 v82E tc_2 d_Rod_test_64 (by decide) (fun c87 => ?_) (fun c87 => ?_)
                  ·
                    obtain ⟨z88, z88E, z88e⟩ : ∃ y : Int32, y.toInt = v67Z + 1 ∧ y = v67 + Int32.ofInt 1 := ⟨_, ti_add v67E (by decide) (by omega), rfl⟩
                    refine V_iinc 7 [some (.ref 85), some (.int o), some (.int a), some (.int z57), some (.int z60), some (.int v80), some (.int v81), some (.int z88), some (.int v82), none, none] d_Rod_test_128 rfl z88e.symm (by decide) rfl rfl ?_
                    refine V_goto 43 d_Rod_test_131 (by decide) ?_
                    refine V_drop 8 [some (.ref 85), some (.int o), some (.int a), some (.int z57), some (.int z60), some (.int v80), some (.int v81), some (.int z88), none, none, none] rfl ?_
                    exact ihL63 v80 v80Z v81 v81Z z88 ((v67Z + 1)) v80E v81E z88E (by omega) (by rw [show (2 * ((v67Z + 1))).toNat = (2 * (v67Z) + v82Z - 1).toNat by omega]; assumption) (by rw [show (2 * ((v67Z + 1))).toNat = (2 * (v67Z) + v82Z - 1).toNat by omega]; assumption) (by omega)
                  ·
                    refine V_iload_n 3 d_Rod_test_67 rfl rfl ?_
                    refine V_aload_n 0 d_Rod_test_68 rfl rfl ?_
                    refine V_getR fa_Rod_12 sk_85 rfl d_Rod_test_69 ?_
                    refine V_getR fa_Rod_91 sk_0 rfl d_Rod_test_72 ?_
                    refine V_iload d_Rod_test_75 rfl ?_
                    refine V_iload_n 1 d_Rod_test_77 rfl rfl ?_
                    refine V_iload d_Rod_test_78 rfl ?_
                    refine N_callVI [.int v67, .int o, .int v82] [.int z57] cv_Rod_207 sk_1 rfl d_Rod_test_80 rfl (Nat.le_of_ble_eq_true rfl) (by decide) (by decide) (c_Land_twitchingRodsX_0 h hI v67 v67Z v67E o oZ oE v82 v82Z v82E (by omega) (by omega) hy0) (fun z89 h90 z89Z z89E p91 => ?_)
                    obtain ⟨eh90, p91⟩ := p91
                    subst eh90
                    refine N_iand d_Rod_test_83 (fun z92 z92Z z92E z92e => ?_)
                    have B93 := BP_and p59 p91
                    rw [← z92e] at B93
                    refine N_callSI [.int z92] [] cs_Rod_199 d_Rod_test_84 rfl (Nat.le_of_ble_eq_true rfl) (by decide) (by decide) (c_Int_bitCountX h z92 z92Z z92E) (fun z94 h95 z94Z z94E p96 => ?_)
                    obtain ⟨eh95, p96⟩ := p96
                    subst eh95
                    have hyes : z94Z = (cP (fun j => (j < 21 ∧ ftC h (rN j) (rR j) tZ.toNat) ∧ j < 21 ∧ twC h (rN j) (rR j) (v67Z).toNat oZ v82Z) 32 : Nat) := z94E.symm.trans (p96.trans (congrArg (fun q : Nat => (q : Int)) (BP_ct B93)))
                    have hyb := cP_le (fun j => (j < 21 ∧ ftC h (rN j) (rR j) tZ.toNat) ∧ j < 21 ∧ twC h (rN j) (rR j) (v67Z).toNat oZ v82Z) 32
                    refine V_istore 9 [some (.ref 85), some (.int o), some (.int a), some (.int z57), some (.int z60), some (.int v80), some (.int v81), some (.int v67), some (.int v82), some (.int z94), none] d_Rod_test_87 (by decide) rfl rfl ?_
                    refine V_iload d_Rod_test_89 rfl ?_
                    refine V_iload d_Rod_test_91 rfl ?_
                    refine V_iload d_Rod_test_93 rfl ?_
                    refine V_isub z60E z94E (by omega) d_Rod_test_95 (fun z97 z97e z97E => ?_)
                    refine N_max z94E z97E wm_Rod_211 d_Rod_test_96 (Nat.le_of_ble_eq_true rfl) (by decide) wmax1 wM2 wmax3 (fun z98 z98Z z98E z98e z98g => ?_)
                    have hx9 : z98Z = gC h tZ.toNat oZ (v67Z).toNat v82Z := by unfold gC; rw [← hyes, ← hnow]; exact mx2_1 (by omega)
                    refine V_istore 10 [some (.ref 85), some (.int o), some (.int a), some (.int z57), some (.int z60), some (.int v80), some (.int v81), some (.int v67), some (.int v82), some (.int z94), some (.int z98)] d_Rod_test_99 (by decide) rfl rfl ?_
                    refine V_iload d_Rod_test_101 rfl ?_
                    refine V_iload d_Rod_test_103 rfl ?_
                    refine V_icmp_ge 122 z98E v80E d_Rod_test_105 (by decide) (fun c99 => ?_) (fun c99 => ?_)
                    ·
                      have hs9 := ts_n (g := gC h tZ.toNat oZ) (f0 := (cP (fun j => j < 21 ∧ ftC h (rN j) (rR j) tZ.toNat) 32 : Nat)) (C := v67Z) (S := v82Z) (by omega) (by omega) (by assumption) (by assumption) hx9 (by omega)
                      obtain ⟨z100, z100E, z100e⟩ : ∃ y : Int32, y.toInt = v82Z + 1 ∧ y = v82 + Int32.ofInt 1 := ⟨_, ti_add v82E (by decide) (by omega), rfl⟩
                      refine V_iinc 8 [some (.ref 85), some (.int o), some (.int a), some (.int z57), some (.int z60), some (.int v80), some (.int v81), some (.int v67), some (.int z100), some (.int z94), some (.int z98)] d_Rod_test_122 rfl z100e.symm (by decide) rfl rfl ?_
                      refine V_goto 61 d_Rod_test_125 (by decide) ?_
                      refine V_drop 9 [some (.ref 85), some (.int o), some (.int a), some (.int z57), some (.int z60), some (.int v80), some (.int v81), some (.int v67), some (.int z100), none, some (.int z98)] rfl ?_
                      refine V_drop 10 [some (.ref 85), some (.int o), some (.int a), some (.int z57), some (.int z60), some (.int v80), some (.int v81), some (.int v67), some (.int z100), none, none] rfl ?_
                      exact ihL78 v80 v80Z v81 v81Z z100 ((v82Z + 1)) v80E v81E z100E (by omega) hs9.1 hs9.2 (by omega)
                    ·
                      have hs9 := ts_y (g := gC h tZ.toNat oZ) (f0 := (cP (fun j => j < 21 ∧ ftC h (rN j) (rR j) tZ.toNat) 32 : Nat)) (C := v67Z) (S := v82Z) (by omega) (by omega) (by assumption) hx9 (by omega)
                      refine V_iload d_Rod_test_108 rfl ?_
                      refine V_istore 5 [some (.ref 85), some (.int o), some (.int a), some (.int z57), some (.int z60), some (.int z98), some (.int v81), some (.int v67), some (.int v82), some (.int z94), some (.int z98)] d_Rod_test_110 (by decide) rfl rfl ?_
                      refine V_bipush 10 d_Rod_test_112 (by decide) ?_
                      refine V_iload d_Rod_test_114 rfl ?_
                      refine V_imul tc_10 v67E (by omega) d_Rod_test_116 (fun z101 z101e z101E => ?_)
                      refine V_iload d_Rod_test_117 rfl ?_
                      refine V_iadd z101E v82E (by omega) d_Rod_test_119 (fun z102 z102e z102E => ?_)
                      refine V_istore 6 [some (.ref 85), some (.int o), some (.int a), some (.int z57), some (.int z60), some (.int z98), some (.int z102), some (.int v67), some (.int v82), some (.int z94), some (.int z98)] d_Rod_test_120 (by decide) rfl rfl ?_
                      obtain ⟨z103, z103E, z103e⟩ : ∃ y : Int32, y.toInt = v82Z + 1 ∧ y = v82 + Int32.ofInt 1 := ⟨_, ti_add v82E (by decide) (by omega), rfl⟩
                      refine V_iinc 8 [some (.ref 85), some (.int o), some (.int a), some (.int z57), some (.int z60), some (.int z98), some (.int z102), some (.int v67), some (.int z103), some (.int z94), some (.int z98)] d_Rod_test_122 rfl z103e.symm (by decide) rfl rfl ?_
                      refine V_goto 61 d_Rod_test_125 (by decide) ?_
                      refine V_drop 9 [some (.ref 85), some (.int o), some (.int a), some (.int z57), some (.int z60), some (.int z98), some (.int z102), some (.int v67), some (.int z103), none, some (.int z98)] rfl ?_
                      refine V_drop 10 [some (.ref 85), some (.int o), some (.int a), some (.int z57), some (.int z60), some (.int z98), some (.int z102), some (.int v67), some (.int z103), none, none] rfl ?_
                      exact ihL78 z98 z98Z z102 (((10 * v67Z) + v82Z)) z103 ((v82Z + 1)) z98E z102E z103E (by omega) hs9.1 hs9.2 (by omega)
              exact L78 (Int.toNat ((3 - 1 : Int) + 1)) v65 v65Z v66 v66Z 1 1 v65E v66E tc_1 (by omega) (by rw [show (2 * (v67Z) + 1 - 1).toNat = (2 * (v67Z)).toNat by omega]; assumption) (by rw [show (2 * (v67Z) + 1 - 1).toNat = (2 * (v67Z)).toNat by omega]; assumption) (by omega)
        exact L63 (Int.toNat ((16 - 0 : Int) + 1)) z60 z60Z (-4) ((-4)) 0 0 z60E tc_m4 tc_0 (by omega) hnow rfl (by omega)
      ·
        refine V_iconst (-1) d_Rod_test_16 (by decide) ?_
        exact V_iret rfl d_Rod_test_17 ⟨(-1), rfl, ⟨rfl, (Or.inr ⟨by omega, tc_m1⟩)⟩⟩
abbrev q_Mod_rodsByX (h : Hp) (c : Int32) (cZ : Int) (o : Int32) (oZ : Int) (s : Int32) (sZ : Int) (b : Int32) (bZ : Int) (t : Int32) (tZ : Int) : Option Value → Hp → Prop := pInt (fun r h' => h = h' ∧ (r.toInt = (tt (QM h tZ.toNat oZ cZ.toNat sZ bZ) 5 : Nat) ∧ 0 ≤ r.toInt ∧ r.toInt ≤ 45))
set_option maxRecDepth 100000 in
theorem c_Mod_rodsByX (h : Hp) (hI : Inv h) (c : Int32) (cZ : Int) (cE : c.toInt = cZ) (o : Int32) (oZ : Int) (oE : o.toInt = oZ) (s : Int32) (sZ : Int) (sE : s.toInt = sZ) (b : Int32) (bZ : Int) (bE : b.toInt = bZ) (t : Int32) (tZ : Int) (tE : t.toInt = tZ) (tK : h.1 117 111 = t) (hy0 : 0 ≤ cZ ∧ cZ ≤ 15) (hy1 : 0 ≤ sZ) (hy2 : 0 ≤ bZ ∧ bZ ≤ 1) (hy3 : ∀ i : Nat, i < 8 → (i : Int) < (h.1 117 111).toInt → (0 ≤ (h.1 117 (115 + 4 * i)).toInt ∧ (h.1 117 (115 + 4 * i)).toInt ≤ 1) ∧ 0 ≤ (h.1 117 (114 + 4 * i)).toInt) : Ct y_Mod_rodsBy b_Mod_rodsBy 8 (some .int) 2 52 [.ref 116, .int c, .int o, .int s, .int b] h (q_Mod_rodsByX h c cZ o oZ s sZ b bZ t tZ) := by
  refine ct_ow R_Mod [some (.ref 116), some (.int c), some (.int o), some (.int s), some (.int b), none, none, none] rfl (by decide) rfl (Nat.le_of_ble_eq_true rfl) ?_
  have f0 : fr [] h h := fr_rf
  refine V_iconst 0 d_Mod_rodsBy_0 (by decide) ?_
  refine V_istore 5 [some (.ref 116), some (.int c), some (.int o), some (.int s), some (.int b), some (.int 0), none, none] d_Mod_rodsBy_1 (by decide) rfl rfl ?_
  refine V_iconst 0 d_Mod_rodsBy_3 (by decide) ?_
  refine V_istore 6 [some (.ref 116), some (.int c), some (.int o), some (.int s), some (.int b), some (.int 0), some (.int 0), none] d_Mod_rodsBy_4 (by decide) rfl rfl ?_
  have L1 : ∀ (nn : Nat) (v3 : Int32) (v3Z : Int) (v4 : Int32) (v4Z : Int), v3.toInt = v3Z → v4.toInt = v4Z → 0 ≤ v4Z ∧ v4Z ≤ 5 → v3Z = (tt (QM h tZ.toNat oZ cZ.toNat sZ bZ) (v4Z).toNat : Nat) → 0 ≤ v3Z ∧ v3Z ≤ 9 * v4Z → 5 - v4Z < (nn : Int) → V R_Mod b_Mod_rodsBy 8 (some .int) 2 52 (q_Mod_rodsByX h c cZ o oZ s sZ b bZ t tZ) h 6 [some (.ref 116), some (.int c), some (.int o), some (.int s), some (.int b), some (.int v3), some (.int v4), none] [] := by
    intro nn
    induction nn with
    | zero => intro v3 v3Z v4 v4Z v3E v4E q5 q6 q7 hm8; exact absurd hm8 (by omega)
    | succ nn ihL1 =>
      intro v3 v3Z v4 v4Z v3E v4E q5 q6 q7 hm8
      refine V_iload d_Mod_rodsBy_6 rfl ?_
      refine V_iconst 4 d_Mod_rodsBy_8 (by decide) ?_
      refine V_icmp_gt 77 v4E tc_4 d_Mod_rodsBy_9 (by decide) (fun c9 => ?_) (fun c9 => ?_)
      ·
        refine V_iload d_Mod_rodsBy_77 rfl ?_
        exact V_iret rfl d_Mod_rodsBy_79 ⟨v3, rfl, ⟨rfl, ⟨by rw [v3E, show (5 : Nat) = (v4Z).toNat by omega]; assumption, by rw [v3E]; omega, by rw [v3E]; omega⟩⟩⟩
      ·
        refine V_iconst 1 d_Mod_rodsBy_12 (by decide) ?_
        refine V_istore 7 [some (.ref 116), some (.int c), some (.int o), some (.int s), some (.int b), some (.int v3), some (.int v4), some (.int 1)] d_Mod_rodsBy_13 (by decide) rfl rfl ?_
        have L10 : ∀ (nn : Nat) (v12 : Int32) (v12Z : Int) (v13 : Int32) (v13Z : Int), v12.toInt = v12Z → v13.toInt = v13Z → 1 ≤ v13Z ∧ v13Z ≤ 10 ∧ v13Z ≤ rO v4Z + 1 → v12Z = (tt (QM h tZ.toNat oZ cZ.toNat sZ bZ) (v4Z).toNat + cP (fun r => (QM h tZ.toNat oZ cZ.toNat sZ bZ) v4Z ((r : Int) + 1)) (v13Z - 1).toNat : Nat) → 0 ≤ v12Z ∧ v12Z ≤ 9 * v4Z + v13Z - 1 → 11 - v13Z < (nn : Int) → V R_Mod b_Mod_rodsBy 8 (some .int) 2 52 (q_Mod_rodsByX h c cZ o oZ s sZ b bZ t tZ) h 15 [some (.ref 116), some (.int c), some (.int o), some (.int s), some (.int b), some (.int v12), some (.int v4), some (.int v13)] [] := by
          intro nn
          induction nn with
          | zero => intro v12 v12Z v13 v13Z v12E v13E q14 q15 q16 hm17; exact absurd hm17 (by omega)
          | succ nn ihL10 =>
            intro v12 v12Z v13 v13Z v12E v13E q14 q15 q16 hm17
            refine V_iload d_Mod_rodsBy_15 rfl ?_
            refine V_iload d_Mod_rodsBy_17 rfl ?_
            refine N_callSI [.int v4] [.int v13] cs_Mod_233 d_Mod_rodsBy_19 rfl (Nat.le_of_ble_eq_true rfl) (by decide) (by decide) (c_Mod_reachesOfX h v4 v4Z v4E) (fun z18 h19 z18Z z18E p20 => ?_)
            obtain ⟨eh19, p20⟩ := p20
            subst eh19
            have hro : z18Z = rO v4Z := z18E.symm.trans p20
            have hr2 : 1 ≤ rO v4Z ∧ rO v4Z ≤ 9 := by unfold rO; split <;> omega
            refine V_icmp_gt 71 v13E z18E d_Mod_rodsBy_22 (by decide) (fun c21 => ?_) (fun c21 => ?_)
            ·
              obtain ⟨z22, z22E, z22e⟩ : ∃ y : Int32, y.toInt = v4Z + 1 ∧ y = v4 + Int32.ofInt 1 := ⟨_, ti_add v4E (by decide) (by omega), rfl⟩
              refine V_iinc 6 [some (.ref 116), some (.int c), some (.int o), some (.int s), some (.int b), some (.int v12), some (.int z22), some (.int v13)] d_Mod_rodsBy_71 rfl z22e.symm (by decide) rfl rfl ?_
              refine V_goto 6 d_Mod_rodsBy_74 (by decide) ?_
              refine V_drop 7 [some (.ref 116), some (.int c), some (.int o), some (.int s), some (.int b), some (.int v12), some (.int z22), none] rfl ?_
              exact ihL1 v12 v12Z z22 ((v4Z + 1)) v12E z22E (by omega) (tt_k (by assumption) (by omega) (by omega) (by omega)) (by omega) (by omega)
            ·
              refine V_iload d_Mod_rodsBy_25 rfl ?_
              refine V_aload_n 0 d_Mod_rodsBy_27 rfl rfl ?_
              refine V_iload d_Mod_rodsBy_28 rfl ?_
              refine V_iload d_Mod_rodsBy_30 rfl ?_
              refine N_callVI [.int v4, .int v13] [.int v12] cv_Mod_236 sk_116 rfl d_Mod_rodsBy_32 rfl (Nat.le_of_ble_eq_true rfl) (by decide) (by decide) (c_Mod_doesFitX h hI v4 v4Z v4E v13 v13Z v13E t tZ tE tK hy3) (fun z23 h24 z23Z z23E p25 => ?_)
              obtain ⟨eh24, p25⟩ := p25
              subst eh24
              have := twR_01 p25
              refine V_if_eq 58 z23E d_Mod_rodsBy_35 (by decide) (fun c26 => ?_) (fun c26 => ?_)
              ·
                refine V_iconst 0 d_Mod_rodsBy_58 (by decide) ?_
                refine N_callSI [.int 0] [.int v12] cs_Mod_196 d_Mod_rodsBy_59 rfl (Nat.le_of_ble_eq_true rfl) (by decide) (by decide) (c_Mod_flag h 0 0 tc_0) (fun z27 h28 z27Z z27E p29 => ?_)
                obtain ⟨eh28, p29⟩ := p29
                subst eh28
                have hq9 : twR z27 ((QM h tZ.toNat oZ cZ.toNat sZ bZ) v4Z v13Z) := Or.inr ⟨by omega, fun q => (p25.resolve_left (fun w => absurd w.1 (by omega))).2 q.1⟩
                refine V_iadd v12E z27E (by omega) d_Mod_rodsBy_62 (fun z30 z30e z30E => ?_)
                refine V_istore 5 [some (.ref 116), some (.int c), some (.int o), some (.int s), some (.int b), some (.int z30), some (.int v4), some (.int v13)] d_Mod_rodsBy_63 (by decide) rfl rfl ?_
                obtain ⟨z31, z31E, z31e⟩ : ∃ y : Int32, y.toInt = v13Z + 1 ∧ y = v13 + Int32.ofInt 1 := ⟨_, ti_add v13E (by decide) (by omega), rfl⟩
                refine V_iinc 7 [some (.ref 116), some (.int c), some (.int o), some (.int s), some (.int b), some (.int z30), some (.int v4), some (.int z31)] d_Mod_rodsBy_65 rfl z31e.symm (by decide) rfl rfl ?_
                refine V_goto 15 d_Mod_rodsBy_68 (by decide) ?_
                exact ihL10 z30 ((v12Z + z27Z)) z31 ((v13Z + 1)) z30E z31E (by omega) (tt_r (by assumption) (by omega) hq9 z27E) (by omega) (by omega)
              ·
                refine V_aload_n 0 d_Mod_rodsBy_38 rfl rfl ?_
                refine V_iload d_Mod_rodsBy_39 rfl ?_
                refine V_iload d_Mod_rodsBy_41 rfl ?_
                refine V_iload_n 1 d_Mod_rodsBy_43 rfl rfl ?_
                refine V_iload_n 2 d_Mod_rodsBy_44 rfl rfl ?_
                refine V_iload_n 3 d_Mod_rodsBy_45 rfl rfl ?_
                refine N_callVI [.int v4, .int v13, .int c, .int o, .int s] [.int v12] cv_Mod_229 sk_116 rfl d_Mod_rodsBy_46 rfl (Nat.le_of_ble_eq_true rfl) (by decide) (by decide) (c_Mod_doesTwitchX h hI v4 v4Z v4E v13 v13Z v13E c cZ cE o oZ oE s sZ sE (by omega) hy1) (fun z32 h33 z32Z z32E p34 => ?_)
                obtain ⟨eh33, p34⟩ := p34
                subst eh33
                have := twR_01 p34
                refine V_iload d_Mod_rodsBy_49 rfl ?_
                refine V_icmp_ne 58 z32E bE d_Mod_rodsBy_51 (by decide) (fun c35 => ?_) (fun c35 => ?_)
                ·
                  refine V_iconst 0 d_Mod_rodsBy_58 (by decide) ?_
                  refine N_callSI [.int 0] [.int v12] cs_Mod_196 d_Mod_rodsBy_59 rfl (Nat.le_of_ble_eq_true rfl) (by decide) (by decide) (c_Mod_flag h 0 0 tc_0) (fun z36 h37 z36Z z36E p38 => ?_)
                  obtain ⟨eh37, p38⟩ := p38
                  subst eh37
                  have hq9 : twR z36 ((QM h tZ.toNat oZ cZ.toNat sZ bZ) v4Z v13Z) := Or.inr ⟨by omega, fun q => tb_0 p34 z32E (by omega) (by omega) q.2⟩
                  refine V_iadd v12E z36E (by omega) d_Mod_rodsBy_62 (fun z39 z39e z39E => ?_)
                  refine V_istore 5 [some (.ref 116), some (.int c), some (.int o), some (.int s), some (.int b), some (.int z39), some (.int v4), some (.int v13)] d_Mod_rodsBy_63 (by decide) rfl rfl ?_
                  obtain ⟨z40, z40E, z40e⟩ : ∃ y : Int32, y.toInt = v13Z + 1 ∧ y = v13 + Int32.ofInt 1 := ⟨_, ti_add v13E (by decide) (by omega), rfl⟩
                  refine V_iinc 7 [some (.ref 116), some (.int c), some (.int o), some (.int s), some (.int b), some (.int z39), some (.int v4), some (.int z40)] d_Mod_rodsBy_65 rfl z40e.symm (by decide) rfl rfl ?_
                  refine V_goto 15 d_Mod_rodsBy_68 (by decide) ?_
                  exact ihL10 z39 ((v12Z + z36Z)) z40 ((v13Z + 1)) z39E z40E (by omega) (tt_r (by assumption) (by omega) hq9 z36E) (by omega) (by omega)
                ·
                  refine V_iconst 1 d_Mod_rodsBy_54 (by decide) ?_
                  refine V_goto 59 d_Mod_rodsBy_55 (by decide) ?_
                  refine N_callSI [.int 1] [.int v12] cs_Mod_196 d_Mod_rodsBy_59 rfl (Nat.le_of_ble_eq_true rfl) (by decide) (by decide) (c_Mod_flag h 1 1 tc_1) (fun z41 h42 z41Z z41E p43 => ?_)
                  obtain ⟨eh42, p43⟩ := p43
                  subst eh42
                  have hq9 : twR z41 ((QM h tZ.toNat oZ cZ.toNat sZ bZ) v4Z v13Z) := Or.inl ⟨by omega, (p25.resolve_right (fun w => absurd w.1 (by omega))).2, tb_1 p34 z32E (by omega) (by omega)⟩
                  refine V_iadd v12E z41E (by omega) d_Mod_rodsBy_62 (fun z44 z44e z44E => ?_)
                  refine V_istore 5 [some (.ref 116), some (.int c), some (.int o), some (.int s), some (.int b), some (.int z44), some (.int v4), some (.int v13)] d_Mod_rodsBy_63 (by decide) rfl rfl ?_
                  obtain ⟨z45, z45E, z45e⟩ : ∃ y : Int32, y.toInt = v13Z + 1 ∧ y = v13 + Int32.ofInt 1 := ⟨_, ti_add v13E (by decide) (by omega), rfl⟩
                  refine V_iinc 7 [some (.ref 116), some (.int c), some (.int o), some (.int s), some (.int b), some (.int z44), some (.int v4), some (.int z45)] d_Mod_rodsBy_65 rfl z45e.symm (by decide) rfl rfl ?_
                  refine V_goto 15 d_Mod_rodsBy_68 (by decide) ?_
                  exact ihL10 z44 ((v12Z + z41Z)) z45 ((v13Z + 1)) z44E z45E (by omega) (tt_r (by assumption) (by omega) hq9 z41E) (by omega) (by omega)
        exact L10 (Int.toNat ((11 - 1 : Int) + 1)) v3 v3Z 1 1 v3E tc_1 (by unfold rO; split <;> omega) (tt_i (by assumption)) (by omega) (by omega)
  exact L1 (Int.toNat ((5 - 0 : Int) + 1)) 0 0 0 0 tc_0 tc_0 (by omega) rfl (by omega) (by omega)
abbrev q_Mod_testX (h : Hp) (o : Int32) (oZ : Int) (a : Int32) (aZ : Int) (w : Int32) (wZ : Int) (g : Int32) (gZ : Int) (t : Int32) (tZ : Int) : Option Value → Hp → Prop := pInt (fun r h' => h = h' ∧ (TSa ((0 ≤ oZ ∧ oZ ≤ 3) ∧ (aZ = 0 ∨ aZ = 1)) r (tsr (ts (wCf (gM h tZ.toNat oZ)) ((tt (QM h tZ.toNat oZ 0 1 1) 5 : Nat) + (tt (QM h tZ.toNat oZ 0 1 0) 5 : Nat) : Int) (2 * (wZ * gZ)).toNat) aZ)))
set_option maxRecDepth 100000 in
theorem c_Mod_testX (h : Hp) (hI : Inv h) (o : Int32) (oZ : Int) (oE : o.toInt = oZ) (a : Int32) (aZ : Int) (aE : a.toInt = aZ) (w : Int32) (wZ : Int) (wE : w.toInt = wZ) (wK : h.1 116 2 = w) (g : Int32) (gZ : Int) (gE : g.toInt = gZ) (gK : h.1 116 3 = g) (t : Int32) (tZ : Int) (tE : t.toInt = tZ) (tK : h.1 117 111 = t) (hy0 : ∀ i : Nat, i < 8 → (i : Int) < (h.1 117 111).toInt → (0 ≤ (h.1 117 (115 + 4 * i)).toInt ∧ (h.1 117 (115 + 4 * i)).toInt ≤ 1) ∧ 0 ≤ (h.1 117 (114 + 4 * i)).toInt) : Ct y_Mod_test b_Mod_test 10 (some .int) 3 79 [.ref 116, .int o, .int a] h (q_Mod_testX h o oZ a aZ w wZ g gZ t tZ) := by
  refine ct_ow R_Mod [some (.ref 116), some (.int o), some (.int a), none, none, none, none, none, none, none] rfl (by decide) rfl (Nat.le_of_ble_eq_true rfl) ?_
  have f0 : fr [] h h := fr_rf
  have g1 : 2 ≤ wZ ∧ wZ ≤ 4 := inv_at hI wE wK.symm rfl
  have g2 : 2 ≤ gZ ∧ gZ ≤ 4 := inv_at hI gE gK.symm rfl
  have m24 := mul24 (A := wZ) (B := gZ) (by omega) (by omega)
  refine V_iload_n 1 d_Mod_test_0 rfl rfl ?_
  refine N_callSI [.int o] [] cs_Mod_205 d_Mod_test_1 rfl (Nat.le_of_ble_eq_true rfl) (by decide) (by decide) (c_Mod_isOwner h o oZ oE) (fun z3 h4 z3Z z3E p5 => ?_)
  obtain ⟨eh4, p5⟩ := p5
  subst eh4
  refine V_if_eq 17 z3E d_Mod_test_4 (by decide) (fun c6 => ?_) (fun c6 => ?_)
  ·
    refine V_iconst (-1) d_Mod_test_17 (by decide) ?_
    exact V_iret rfl d_Mod_test_18 ⟨(-1), rfl, ⟨rfl, (Or.inr ⟨by omega, tc_m1⟩)⟩⟩
  ·
    refine V_iload_n 2 d_Mod_test_7 rfl rfl ?_
    refine V_i2l d_Mod_test_8 (fun z7 z7e z7E => ?_)
    have z7F : z7.toInt = aZ := z7E.trans aE
    refine V_lconst 0 d_Mod_test_9 (by decide) ?_
    refine V_lconst 1 d_Mod_test_10 (by decide) ?_
    refine N_callSI [.long z7, .long 0, .long 1] [] cs_Mod_95 d_Mod_test_11 rfl (Nat.le_of_ble_eq_true rfl) (by decide) (by decide) (c_Mod_in h z7 aZ z7F 0 0 tl_0 1 1 tl_1) (fun z8 h9 z8Z z8E p10 => ?_)
    obtain ⟨eh9, p10⟩ := p10
    subst eh9
    refine V_if_ne 19 z8E d_Mod_test_14 (by decide) (fun c11 => ?_) (fun c11 => ?_)
    ·
      refine V_aload_n 0 d_Mod_test_19 rfl rfl ?_
      refine V_iconst 0 d_Mod_test_20 (by decide) ?_
      refine V_iload_n 1 d_Mod_test_21 rfl rfl ?_
      refine V_iconst 1 d_Mod_test_22 (by decide) ?_
      refine V_iconst 1 d_Mod_test_23 (by decide) ?_
      refine N_callVI [.int 0, .int o, .int 1, .int 1] [] cv_Mod_239 sk_116 rfl d_Mod_test_24 rfl (Nat.le_of_ble_eq_true rfl) (by decide) (by decide) (c_Mod_rodsByX h hI 0 0 tc_0 o oZ oE 1 1 tc_1 1 1 tc_1 t tZ tE tK (by omega) (by omega) (by decide) hy0) (fun z12 h13 z12Z z12E p14 => ?_)
      obtain ⟨eh13, p14⟩ := p14
      subst eh13
      refine V_aload_n 0 d_Mod_test_27 rfl rfl ?_
      refine V_iconst 0 d_Mod_test_28 (by decide) ?_
      refine V_iload_n 1 d_Mod_test_29 rfl rfl ?_
      refine V_iconst 1 d_Mod_test_30 (by decide) ?_
      refine V_iconst 0 d_Mod_test_31 (by decide) ?_
      refine N_callVI [.int 0, .int o, .int 1, .int 0] [.int z12] cv_Mod_239 sk_116 rfl d_Mod_test_32 rfl (Nat.le_of_ble_eq_true rfl) (by decide) (by decide) (c_Mod_rodsByX h hI 0 0 tc_0 o oZ oE 1 1 tc_1 0 0 tc_0 t tZ tE tK (by omega) (by omega) (by decide) hy0) (fun z15 h16 z15Z z15E p17 => ?_)
      obtain ⟨eh16, p17⟩ := p17
      subst eh16
      refine V_iadd z12E z15E (by omega) d_Mod_test_35 (fun z18 z18e z18E => ?_)
      have hf0 : (z12Z + z15Z) = ((tt (QM h tZ.toNat oZ 0 1 1) 5 : Nat) + (tt (QM h tZ.toNat oZ 0 1 0) 5 : Nat) : Int) := by have a1 : z12Z = (tt (QM h tZ.toNat oZ 0 1 1) 5 : Nat) := z12E.symm.trans p14.1; have a2 : z15Z = (tt (QM h tZ.toNat oZ 0 1 0) 5 : Nat) := z15E.symm.trans p17.1; rw [a1, a2]
      refine V_istore_n 3 [some (.ref 116), some (.int o), some (.int a), some (.int z18), none, none, none, none, none, none] d_Mod_test_36 rfl (by decide) rfl rfl ?_
      refine V_bipush (-4) d_Mod_test_37 (by decide) ?_
      refine V_istore 4 [some (.ref 116), some (.int o), some (.int a), some (.int z18), some (.int (-4)), none, none, none, none, none] d_Mod_test_39 (by decide) rfl rfl ?_
      refine V_iconst 0 d_Mod_test_41 (by decide) ?_
      refine V_istore 5 [some (.ref 116), some (.int o), some (.int a), some (.int z18), some (.int (-4)), some (.int 0), none, none, none, none] d_Mod_test_42 (by decide) rfl rfl ?_
      have L19 : ∀ (nn : Nat) (v21 : Int32) (v21Z : Int) (v22 : Int32) (v22Z : Int) (v23 : Int32) (v23Z : Int), v21.toInt = v21Z → v22.toInt = v22Z → v23.toInt = v23Z → 0 ≤ v23Z ∧ v23Z ≤ wZ * gZ → v21Z = (ts (wCf (gM h tZ.toNat oZ)) ((tt (QM h tZ.toNat oZ 0 1 1) 5 : Nat) + (tt (QM h tZ.toNat oZ 0 1 0) 5 : Nat) : Int) (2 * (v23Z)).toNat).1 → v22Z = (ts (wCf (gM h tZ.toNat oZ)) ((tt (QM h tZ.toNat oZ 0 1 1) 5 : Nat) + (tt (QM h tZ.toNat oZ 0 1 0) 5 : Nat) : Int) (2 * (v23Z)).toNat).2 → 16 - v23Z < (nn : Int) → V R_Mod b_Mod_test 10 (some .int) 3 79 (q_Mod_testX h o oZ a aZ w wZ g gZ t tZ) h 44 [some (.ref 116), some (.int o), some (.int a), some (.int v21), some (.int v22), some (.int v23), none, none, none, none] [] := by
        intro nn
        induction nn with
        | zero => intro v21 v21Z v22 v22Z v23 v23Z v21E v22E v23E q24 q25 q26 hm27; exact absurd hm27 (by omega)
        | succ nn ihL19 =>
          intro v21 v21Z v22 v22Z v23 v23Z v21E v22E v23E q24 q25 q26 hm27
          refine V_iload d_Mod_test_44 rfl ?_
          refine V_aload_n 0 d_Mod_test_46 rfl rfl ?_
          refine N_callVI [] [.int v23] cv_Mod_183 sk_116 rfl d_Mod_test_47 rfl (Nat.le_of_ble_eq_true rfl) (by decide) (by decide) (c_Mod_cellMany h hI w wZ wE wK g gZ gE gK) (fun z28 h29 z28Z z28E p30 => ?_)
          obtain ⟨eh29, p30⟩ := p30
          subst eh29
          refine V_icmp_ge 148 v23E z28E d_Mod_test_50 (by decide) (fun c31 => ?_) (fun c31 => ?_)
          ·
            refine V_iload d_Mod_test_148 rfl ?_
            refine V_bipush (-4) d_Mod_test_150 (by decide) ?_
            refine V_icmp_ne 160 v22E tc_m4 d_Mod_test_152 (by decide) (fun c32 => ?_) (fun c32 => ?_)
            ·
              refine V_iload_n 2 d_Mod_test_160 rfl rfl ?_
              refine V_if_ne 169 aE d_Mod_test_161 (by decide) (fun c33 => ?_) (fun c33 => ?_)
              ·
                refine V_iload_n 3 d_Mod_test_169 rfl rfl ?_
                exact V_iret rfl d_Mod_test_170 ⟨v21, rfl, ⟨rfl, (Or.inl ⟨by omega, tsr_1 (A := v21Z) (B := v22Z) (by rw [show (2 * (wZ * gZ)).toNat = (2 * (v23Z)).toNat by omega]; assumption) (by rw [show (2 * (wZ * gZ)).toNat = (2 * (v23Z)).toNat by omega]; assumption) (by (try rw [v21E]); omega)⟩)⟩⟩
              ·
                refine V_iload d_Mod_test_164 rfl ?_
                refine V_goto 170 d_Mod_test_166 (by decide) ?_
                exact V_iret rfl d_Mod_test_170 ⟨v22, rfl, ⟨rfl, (Or.inl ⟨by omega, tsr_1 (A := v21Z) (B := v22Z) (by rw [show (2 * (wZ * gZ)).toNat = (2 * (v23Z)).toNat by omega]; assumption) (by rw [show (2 * (wZ * gZ)).toNat = (2 * (v23Z)).toNat by omega]; assumption) (by (try rw [v22E]); omega)⟩)⟩⟩
            ·
              refine V_bipush (-4) d_Mod_test_155 (by decide) ?_
              refine V_goto 170 d_Mod_test_157 (by decide) ?_
              exact V_iret rfl d_Mod_test_170 ⟨(-4), rfl, ⟨rfl, (Or.inl ⟨by omega, tsr_1 (A := v21Z) (B := v22Z) (by rw [show (2 * (wZ * gZ)).toNat = (2 * (v23Z)).toNat by omega]; assumption) (by rw [show (2 * (wZ * gZ)).toNat = (2 * (v23Z)).toNat by omega]; assumption) (by (try rw [tc_m4]); omega)⟩)⟩⟩
          ·
            refine V_iconst 1 d_Mod_test_53 (by decide) ?_
            refine V_istore 6 [some (.ref 116), some (.int o), some (.int a), some (.int v21), some (.int v22), some (.int v23), some (.int 1), none, none, none] d_Mod_test_54 (by decide) rfl rfl ?_
            have L34 : ∀ (nn : Nat) (v36 : Int32) (v36Z : Int) (v37 : Int32) (v37Z : Int) (v38 : Int32) (v38Z : Int), v36.toInt = v36Z → v37.toInt = v37Z → v38.toInt = v38Z → 1 ≤ v38Z ∧ v38Z ≤ 3 → v36Z = (ts (wCf (gM h tZ.toNat oZ)) ((tt (QM h tZ.toNat oZ 0 1 1) 5 : Nat) + (tt (QM h tZ.toNat oZ 0 1 0) 5 : Nat) : Int) (2 * (v23Z) + v38Z - 1).toNat).1 → v37Z = (ts (wCf (gM h tZ.toNat oZ)) ((tt (QM h tZ.toNat oZ 0 1 1) 5 : Nat) + (tt (QM h tZ.toNat oZ 0 1 0) 5 : Nat) : Int) (2 * (v23Z) + v38Z - 1).toNat).2 → 3 - v38Z < (nn : Int) → V R_Mod b_Mod_test 10 (some .int) 3 79 (q_Mod_testX h o oZ a aZ w wZ g gZ t tZ) h 56 [some (.ref 116), some (.int o), some (.int a), some (.int v36), some (.int v37), some (.int v23), some (.int v38), none, none, none] [] := by
              intro nn
              induction nn with
              | zero => intro v36 v36Z v37 v37Z v38 v38Z v36E v37E v38E q39 q40 q41 hm42; exact absurd hm42 (by omega)
              | succ nn ihL34 =>
                intro v36 v36Z v37 v37Z v38 v38Z v36E v37E v38E q39 q40 q41 hm42
                refine V_iload d_Mod_test_56 rfl ?_
                refine V_iconst 2 d_Mod_test_58 (by decide) ?_
                refine V_icmp_gt 142 v38E tc_2 d_Mod_test_59 (by decide) (fun c43 => ?_) (fun c43 => ?_)
                ·
                  obtain ⟨z44, z44E, z44e⟩ : ∃ y : Int32, y.toInt = v23Z + 1 ∧ y = v23 + Int32.ofInt 1 := ⟨_, ti_add v23E (by decide) (by omega), rfl⟩
                  refine V_iinc 5 [some (.ref 116), some (.int o), some (.int a), some (.int v36), some (.int v37), some (.int z44), some (.int v38), none, none, none] d_Mod_test_142 rfl z44e.symm (by decide) rfl rfl ?_
                  refine V_goto 44 d_Mod_test_145 (by decide) ?_
                  refine V_drop 6 [some (.ref 116), some (.int o), some (.int a), some (.int v36), some (.int v37), some (.int z44), none, none, none, none] rfl ?_
                  exact ihL19 v36 v36Z v37 v37Z z44 ((v23Z + 1)) v36E v37E z44E (by omega) (by rw [show (2 * ((v23Z + 1))).toNat = (2 * (v23Z) + v38Z - 1).toNat by omega]; assumption) (by rw [show (2 * ((v23Z + 1))).toNat = (2 * (v23Z) + v38Z - 1).toNat by omega]; assumption) (by omega)
                ·
                  refine V_aload_n 0 d_Mod_test_62 rfl rfl ?_
                  refine V_iload d_Mod_test_63 rfl ?_
                  refine V_iload_n 1 d_Mod_test_65 rfl rfl ?_
                  refine V_iload d_Mod_test_66 rfl ?_
                  refine V_iconst 1 d_Mod_test_68 (by decide) ?_
                  refine N_callVI [.int v23, .int o, .int v38, .int 1] [] cv_Mod_239 sk_116 rfl d_Mod_test_69 rfl (Nat.le_of_ble_eq_true rfl) (by decide) (by decide) (c_Mod_rodsByX h hI v23 v23Z v23E o oZ oE v38 v38Z v38E 1 1 tc_1 t tZ tE tK (by omega) (by omega) (by decide) hy0) (fun z45 h46 z45Z z45E p47 => ?_)
                  obtain ⟨eh46, p47⟩ := p47
                  subst eh46
                  refine V_istore 7 [some (.ref 116), some (.int o), some (.int a), some (.int v36), some (.int v37), some (.int v23), some (.int v38), some (.int z45), none, none] d_Mod_test_72 (by decide) rfl rfl ?_
                  refine V_aload_n 0 d_Mod_test_74 rfl rfl ?_
                  refine V_iload d_Mod_test_75 rfl ?_
                  refine V_iload_n 1 d_Mod_test_77 rfl rfl ?_
                  refine V_iload d_Mod_test_78 rfl ?_
                  refine V_iconst 0 d_Mod_test_80 (by decide) ?_
                  refine N_callVI [.int v23, .int o, .int v38, .int 0] [] cv_Mod_239 sk_116 rfl d_Mod_test_81 rfl (Nat.le_of_ble_eq_true rfl) (by decide) (by decide) (c_Mod_rodsByX h hI v23 v23Z v23E o oZ oE v38 v38Z v38E 0 0 tc_0 t tZ tE tK (by omega) (by omega) (by decide) hy0) (fun z48 h49 z48Z z48E p50 => ?_)
                  obtain ⟨eh49, p50⟩ := p50
                  subst eh49
                  refine V_istore 8 [some (.ref 116), some (.int o), some (.int a), some (.int v36), some (.int v37), some (.int v23), some (.int v38), some (.int z45), some (.int z48), none] d_Mod_test_84 (by decide) rfl rfl ?_
                  refine V_iload d_Mod_test_86 rfl ?_
                  refine V_iload d_Mod_test_88 rfl ?_
                  refine V_icmp_le 98 z45E z48E d_Mod_test_90 (by decide) (fun c51 => ?_) (fun c51 => ?_)
                  ·
                    refine V_iload d_Mod_test_98 rfl ?_
                    have hx9 : z48Z = gM h tZ.toNat oZ (v23Z).toNat v38Z := by unfold gM; rw [← z45E.symm.trans p47.1, ← z48E.symm.trans p50.1]; exact mx2_1 (by omega)
                    refine V_istore 9 [some (.ref 116), some (.int o), some (.int a), some (.int v36), some (.int v37), some (.int v23), some (.int v38), some (.int z45), some (.int z48), some (.int z48)] d_Mod_test_100 (by decide) rfl rfl ?_
                    refine V_iload d_Mod_test_102 rfl ?_
                    refine V_iload_n 3 d_Mod_test_104 rfl rfl ?_
                    refine V_icmp_ge 119 z48E v36E d_Mod_test_105 (by decide) (fun c52 => ?_) (fun c52 => ?_)
                    ·
                      refine V_iload d_Mod_test_119 rfl ?_
                      refine V_istore 4 [some (.ref 116), some (.int o), some (.int a), some (.int v36), some (.int v37), some (.int v23), some (.int v38), some (.int z45), some (.int z48), some (.int z48)] d_Mod_test_121 (by decide) rfl rfl ?_
                      refine V_iload d_Mod_test_123 rfl ?_
                      refine V_iload_n 3 d_Mod_test_125 rfl rfl ?_
                      refine V_icmp_ge 134 z48E v36E d_Mod_test_126 (by decide) (fun c53 => ?_) (fun c53 => ?_)
                      ·
                        refine V_iload_n 3 d_Mod_test_134 rfl rfl ?_
                        refine V_istore_n 3 [some (.ref 116), some (.int o), some (.int a), some (.int v36), some (.int v37), some (.int v23), some (.int v38), some (.int z45), some (.int z48), some (.int z48)] d_Mod_test_135 rfl (by decide) rfl rfl ?_
                        have hs9 := ts_n (g := gM h tZ.toNat oZ) (f0 := ((tt (QM h tZ.toNat oZ 0 1 1) 5 : Nat) + (tt (QM h tZ.toNat oZ 0 1 0) 5 : Nat) : Int)) (C := v23Z) (S := v38Z) (by omega) (by omega) (by assumption) (by assumption) hx9 (by omega)
                        obtain ⟨z54, z54E, z54e⟩ : ∃ y : Int32, y.toInt = v38Z + 1 ∧ y = v38 + Int32.ofInt 1 := ⟨_, ti_add v38E (by decide) (by omega), rfl⟩
                        refine V_iinc 6 [some (.ref 116), some (.int o), some (.int a), some (.int v36), some (.int v37), some (.int v23), some (.int z54), some (.int z45), some (.int z48), some (.int z48)] d_Mod_test_136 rfl z54e.symm (by decide) rfl rfl ?_
                        refine V_goto 56 d_Mod_test_139 (by decide) ?_
                        refine V_drop 7 [some (.ref 116), some (.int o), some (.int a), some (.int v36), some (.int v37), some (.int v23), some (.int z54), none, some (.int z48), some (.int z48)] rfl ?_
                        refine V_drop 8 [some (.ref 116), some (.int o), some (.int a), some (.int v36), some (.int v37), some (.int v23), some (.int z54), none, none, some (.int z48)] rfl ?_
                        refine V_drop 9 [some (.ref 116), some (.int o), some (.int a), some (.int v36), some (.int v37), some (.int v23), some (.int z54), none, none, none] rfl ?_
                        exact ihL34 v36 v36Z v37 v37Z z54 ((v38Z + 1)) v36E v37E z54E (by omega) hs9.1 hs9.2 (by omega)
                      ·
                        exact absurd c53 (by omega)
                    ·
                      refine V_bipush 10 d_Mod_test_108 (by decide) ?_
                      refine V_iload d_Mod_test_110 rfl ?_
                      refine V_imul tc_10 v23E (by omega) d_Mod_test_112 (fun z55 z55e z55E => ?_)
                      refine V_iload d_Mod_test_113 rfl ?_
                      refine V_iadd z55E v38E (by omega) d_Mod_test_115 (fun z56 z56e z56E => ?_)
                      refine V_goto 121 d_Mod_test_116 (by decide) ?_
                      refine V_istore 4 [some (.ref 116), some (.int o), some (.int a), some (.int v36), some (.int z56), some (.int v23), some (.int v38), some (.int z45), some (.int z48), some (.int z48)] d_Mod_test_121 (by decide) rfl rfl ?_
                      refine V_iload d_Mod_test_123 rfl ?_
                      refine V_iload_n 3 d_Mod_test_125 rfl rfl ?_
                      refine V_icmp_ge 134 z48E v36E d_Mod_test_126 (by decide) (fun c57 => ?_) (fun c57 => ?_)
                      ·
                        exact absurd c57 (by omega)
                      ·
                        refine V_iload d_Mod_test_129 rfl ?_
                        refine V_goto 135 d_Mod_test_131 (by decide) ?_
                        refine V_istore_n 3 [some (.ref 116), some (.int o), some (.int a), some (.int z48), some (.int z56), some (.int v23), some (.int v38), some (.int z45), some (.int z48), some (.int z48)] d_Mod_test_135 rfl (by decide) rfl rfl ?_
                        have hs9 := ts_y (g := gM h tZ.toNat oZ) (f0 := ((tt (QM h tZ.toNat oZ 0 1 1) 5 : Nat) + (tt (QM h tZ.toNat oZ 0 1 0) 5 : Nat) : Int)) (C := v23Z) (S := v38Z) (by omega) (by omega) (by assumption) hx9 (by omega)
                        obtain ⟨z58, z58E, z58e⟩ : ∃ y : Int32, y.toInt = v38Z + 1 ∧ y = v38 + Int32.ofInt 1 := ⟨_, ti_add v38E (by decide) (by omega), rfl⟩
                        refine V_iinc 6 [some (.ref 116), some (.int o), some (.int a), some (.int z48), some (.int z56), some (.int v23), some (.int z58), some (.int z45), some (.int z48), some (.int z48)] d_Mod_test_136 rfl z58e.symm (by decide) rfl rfl ?_
                        refine V_goto 56 d_Mod_test_139 (by decide) ?_
                        refine V_drop 7 [some (.ref 116), some (.int o), some (.int a), some (.int z48), some (.int z56), some (.int v23), some (.int z58), none, some (.int z48), some (.int z48)] rfl ?_
                        refine V_drop 8 [some (.ref 116), some (.int o), some (.int a), some (.int z48), some (.int z56), some (.int v23), some (.int z58), none, none, some (.int z48)] rfl ?_
                        refine V_drop 9 [some (.ref 116), some (.int o), some (.int a), some (.int z48), some (.int z56), some (.int v23), some (.int z58), none, none, none] rfl ?_
                        exact ihL34 z48 z48Z z56 (((10 * v23Z) + v38Z)) z58 ((v38Z + 1)) z48E z56E z58E (by omega) hs9.1 hs9.2 (by omega)
                  ·
                    refine V_iload d_Mod_test_93 rfl ?_
                    refine V_goto 100 d_Mod_test_95 (by decide) ?_
                    have hx9 : z45Z = gM h tZ.toNat oZ (v23Z).toNat v38Z := by unfold gM; rw [← z45E.symm.trans p47.1, ← z48E.symm.trans p50.1]; exact mx2_1 (by omega)
                    refine V_istore 9 [some (.ref 116), some (.int o), some (.int a), some (.int v36), some (.int v37), some (.int v23), some (.int v38), some (.int z45), some (.int z48), some (.int z45)] d_Mod_test_100 (by decide) rfl rfl ?_
                    refine V_iload d_Mod_test_102 rfl ?_
                    refine V_iload_n 3 d_Mod_test_104 rfl rfl ?_
                    refine V_icmp_ge 119 z45E v36E d_Mod_test_105 (by decide) (fun c59 => ?_) (fun c59 => ?_)
                    ·
                      refine V_iload d_Mod_test_119 rfl ?_
                      refine V_istore 4 [some (.ref 116), some (.int o), some (.int a), some (.int v36), some (.int v37), some (.int v23), some (.int v38), some (.int z45), some (.int z48), some (.int z45)] d_Mod_test_121 (by decide) rfl rfl ?_
                      refine V_iload d_Mod_test_123 rfl ?_
                      refine V_iload_n 3 d_Mod_test_125 rfl rfl ?_
                      refine V_icmp_ge 134 z45E v36E d_Mod_test_126 (by decide) (fun c60 => ?_) (fun c60 => ?_)
                      ·
                        refine V_iload_n 3 d_Mod_test_134 rfl rfl ?_
                        refine V_istore_n 3 [some (.ref 116), some (.int o), some (.int a), some (.int v36), some (.int v37), some (.int v23), some (.int v38), some (.int z45), some (.int z48), some (.int z45)] d_Mod_test_135 rfl (by decide) rfl rfl ?_
                        have hs9 := ts_n (g := gM h tZ.toNat oZ) (f0 := ((tt (QM h tZ.toNat oZ 0 1 1) 5 : Nat) + (tt (QM h tZ.toNat oZ 0 1 0) 5 : Nat) : Int)) (C := v23Z) (S := v38Z) (by omega) (by omega) (by assumption) (by assumption) hx9 (by omega)
                        obtain ⟨z61, z61E, z61e⟩ : ∃ y : Int32, y.toInt = v38Z + 1 ∧ y = v38 + Int32.ofInt 1 := ⟨_, ti_add v38E (by decide) (by omega), rfl⟩
                        refine V_iinc 6 [some (.ref 116), some (.int o), some (.int a), some (.int v36), some (.int v37), some (.int v23), some (.int z61), some (.int z45), some (.int z48), some (.int z45)] d_Mod_test_136 rfl z61e.symm (by decide) rfl rfl ?_
                        refine V_goto 56 d_Mod_test_139 (by decide) ?_
                        refine V_drop 7 [some (.ref 116), some (.int o), some (.int a), some (.int v36), some (.int v37), some (.int v23), some (.int z61), none, some (.int z48), some (.int z45)] rfl ?_
                        refine V_drop 8 [some (.ref 116), some (.int o), some (.int a), some (.int v36), some (.int v37), some (.int v23), some (.int z61), none, none, some (.int z45)] rfl ?_
                        refine V_drop 9 [some (.ref 116), some (.int o), some (.int a), some (.int v36), some (.int v37), some (.int v23), some (.int z61), none, none, none] rfl ?_
                        exact ihL34 v36 v36Z v37 v37Z z61 ((v38Z + 1)) v36E v37E z61E (by omega) hs9.1 hs9.2 (by omega)
                      ·
                        exact absurd c60 (by omega)
                    ·
                      refine V_bipush 10 d_Mod_test_108 (by decide) ?_
                      refine V_iload d_Mod_test_110 rfl ?_
                      refine V_imul tc_10 v23E (by omega) d_Mod_test_112 (fun z62 z62e z62E => ?_)
                      refine V_iload d_Mod_test_113 rfl ?_
                      refine V_iadd z62E v38E (by omega) d_Mod_test_115 (fun z63 z63e z63E => ?_)
                      refine V_goto 121 d_Mod_test_116 (by decide) ?_
                      refine V_istore 4 [some (.ref 116), some (.int o), some (.int a), some (.int v36), some (.int z63), some (.int v23), some (.int v38), some (.int z45), some (.int z48), some (.int z45)] d_Mod_test_121 (by decide) rfl rfl ?_
                      refine V_iload d_Mod_test_123 rfl ?_
                      refine V_iload_n 3 d_Mod_test_125 rfl rfl ?_
                      refine V_icmp_ge 134 z45E v36E d_Mod_test_126 (by decide) (fun c64 => ?_) (fun c64 => ?_)
                      ·
                        exact absurd c64 (by omega)
                      ·
                        refine V_iload d_Mod_test_129 rfl ?_
                        refine V_goto 135 d_Mod_test_131 (by decide) ?_
                        refine V_istore_n 3 [some (.ref 116), some (.int o), some (.int a), some (.int z45), some (.int z63), some (.int v23), some (.int v38), some (.int z45), some (.int z48), some (.int z45)] d_Mod_test_135 rfl (by decide) rfl rfl ?_
                        have hs9 := ts_y (g := gM h tZ.toNat oZ) (f0 := ((tt (QM h tZ.toNat oZ 0 1 1) 5 : Nat) + (tt (QM h tZ.toNat oZ 0 1 0) 5 : Nat) : Int)) (C := v23Z) (S := v38Z) (by omega) (by omega) (by assumption) hx9 (by omega)
                        obtain ⟨z65, z65E, z65e⟩ : ∃ y : Int32, y.toInt = v38Z + 1 ∧ y = v38 + Int32.ofInt 1 := ⟨_, ti_add v38E (by decide) (by omega), rfl⟩
                        refine V_iinc 6 [some (.ref 116), some (.int o), some (.int a), some (.int z45), some (.int z63), some (.int v23), some (.int z65), some (.int z45), some (.int z48), some (.int z45)] d_Mod_test_136 rfl z65e.symm (by decide) rfl rfl ?_
                        refine V_goto 56 d_Mod_test_139 (by decide) ?_
                        refine V_drop 7 [some (.ref 116), some (.int o), some (.int a), some (.int z45), some (.int z63), some (.int v23), some (.int z65), none, some (.int z48), some (.int z45)] rfl ?_
                        refine V_drop 8 [some (.ref 116), some (.int o), some (.int a), some (.int z45), some (.int z63), some (.int v23), some (.int z65), none, none, some (.int z45)] rfl ?_
                        refine V_drop 9 [some (.ref 116), some (.int o), some (.int a), some (.int z45), some (.int z63), some (.int v23), some (.int z65), none, none, none] rfl ?_
                        exact ihL34 z45 z45Z z63 (((10 * v23Z) + v38Z)) z65 ((v38Z + 1)) z45E z63E z65E (by omega) hs9.1 hs9.2 (by omega)
            exact L34 (Int.toNat ((3 - 1 : Int) + 1)) v21 v21Z v22 v22Z 1 1 v21E v22E tc_1 (by omega) (by rw [show (2 * (v23Z) + 1 - 1).toNat = (2 * (v23Z)).toNat by omega]; assumption) (by rw [show (2 * (v23Z) + 1 - 1).toNat = (2 * (v23Z)).toNat by omega]; assumption) (by omega)
      exact L19 (Int.toNat ((16 - 0 : Int) + 1)) z18 ((z12Z + z15Z)) (-4) ((-4)) 0 0 z18E tc_m4 tc_0 (by omega) hf0 rfl (by omega)
    ·
      refine V_iconst (-1) d_Mod_test_17 (by decide) ?_
      exact V_iret rfl d_Mod_test_18 ⟨(-1), rfl, ⟨rfl, (Or.inr ⟨by omega, tc_m1⟩)⟩⟩
