def S_Rod_readX : List (Nat × Option Nat) := [(0, some 3), (0, some 4), (1, none), (2, none), (3, none), (4, none), (5, none), (6, none), (7, some 4), (8, none), (9, none), (10, none), (11, none), (12, some 4), (13, none), (14, none), (15, none), (16, none), (17, some 3), (17, some 4), (18, none), (19, none), (20, none), (21, none), (22, none), (23, none), (24, some 4), (25, none), (26, none), (27, none), (28, none), (29, some 4), (30, none), (31, none), (32, none), (33, none), (85, some 10)]
abbrev q_Rod_readX (h : Hp) (k : Int32) (kZ : Int) (l : Int32) (lZ : Int) (f : Int32) (fZ : Int) (n : Int32) (nZ : Int) : Option Value → Hp → Prop := pInt (fun r h' => Inv h' ∧ fr S_Rod_readX h h' ∧ (cA h h'))
set_option maxRecDepth 100000 in
theorem c_Rod_readX (h : Hp) (hI : Inv h) (k : Int32) (kZ : Int) (kE : k.toInt = kZ) (l : Int32) (lZ : Int) (lE : l.toInt = lZ) (f : Int32) (fZ : Int) (fE : f.toInt = fZ) (n : Int32) (nZ : Int) (nE : n.toInt = nZ) : Ct y_Rod_read b_Rod_read 9 (some .int) 3 102 [.ref 85, .int k, .int l, .int f, .int n] h (q_Rod_readX h k kZ l lZ f fZ n nZ) := by
  refine ct_ow R_Rod [some (.ref 85), some (.int k), some (.int l), some (.int f), some (.int n), none, none, none, none] rfl (by decide) rfl (Nat.le_of_ble_eq_true rfl) ?_
  have f0 : fr S_Rod_readX h h := fr_rf
  refine V_iload_n 1 d_Rod_read_0 rfl rfl ?_
  refine N_callSI [.int k] [] cs_Rod_283 d_Rod_read_1 rfl (Nat.le_of_ble_eq_true rfl) (by decide) (by decide) (c_Rod_isSheet h k kZ kE) (fun z1 h2 z1Z z1E p3 => ?_)
  obtain ⟨eh2, p3⟩ := p3
  subst eh2
  refine V_if_eq 26 z1E d_Rod_read_4 (by decide) (fun c4 => ?_) (fun c4 => ?_)
  ·
    refine V_iconst (-1) d_Rod_read_26 (by decide) ?_
    exact V_iret rfl d_Rod_read_27 ⟨(-1), rfl, ⟨hI, f0, (fun _ _ _ _ => rfl)⟩⟩
  ·
    refine V_iload_n 2 d_Rod_read_7 rfl rfl ?_
    refine N_callSI [.int l] [] cs_Rod_286 d_Rod_read_8 rfl (Nat.le_of_ble_eq_true rfl) (by decide) (by decide) (c_Rod_isLane h l lZ lE) (fun z5 h6 z5Z z5E p7 => ?_)
    obtain ⟨eh6, p7⟩ := p7
    subst eh6
    refine V_if_eq 26 z5E d_Rod_read_11 (by decide) (fun c8 => ?_) (fun c8 => ?_)
    ·
      refine V_iconst (-1) d_Rod_read_26 (by decide) ?_
      exact V_iret rfl d_Rod_read_27 ⟨(-1), rfl, ⟨hI, f0, (fun _ _ _ _ => rfl)⟩⟩
    ·
      refine V_iload d_Rod_read_14 rfl ?_
      refine V_if_lt 26 nE d_Rod_read_16 (by decide) (fun c9 => ?_) (fun c9 => ?_)
      ·
        refine V_iconst (-1) d_Rod_read_26 (by decide) ?_
        exact V_iret rfl d_Rod_read_27 ⟨(-1), rfl, ⟨hI, f0, (fun _ _ _ _ => rfl)⟩⟩
      ·
        refine V_iload d_Rod_read_19 rfl ?_
        refine V_bipush 13 d_Rod_read_21 (by decide) ?_
        refine V_icmp_le 28 nE tc_13 d_Rod_read_23 (by decide) (fun c10 => ?_) (fun c10 => ?_)
        ·
          refine V_aload_n 0 d_Rod_read_28 rfl rfl ?_
          refine V_getR fa_Rod_62 sk_85 rfl d_Rod_read_29 ?_
          refine V_iload_n 1 d_Rod_read_32 rfl rfl ?_
          rcases (by omega : kZ = 0 ∨ kZ = 1 ∨ kZ = 2 ∨ kZ = 3) with c11 | c11 | c11 | c11
          ·
            refine V_aald (r := 108) sk_107 (by decide) kE (by omega) (by rw [c11]; rfl) d_Rod_read_33 ?_
            refine V_astore 5 [some (.ref 85), some (.int k), some (.int l), some (.int f), some (.int n), some (.ref 108), none, none, none] d_Rod_read_34 (by decide) rfl rfl ?_
            refine V_aload d_Rod_read_36 rfl ?_
            refine V_iload_n 2 d_Rod_read_38 rfl rfl ?_
            refine V_iload_n 3 d_Rod_read_39 rfl rfl ?_
            refine V_iload d_Rod_read_40 rfl ?_
            obtain ⟨z12, z12Z, z12E, z12e⟩ : ∃ (y : Int32) (Y : Int), y.toInt = Y ∧ y = h.1 108 2 := ⟨_, _, rfl, rfl⟩
            have g13 : 0 ≤ z12Z ∧ z12Z ≤ 40 := inv_at hI z12E z12e rfl
            refine N_callVI [.int l, .int f, .int n] [] cv_Rod_300 sk_108 rfl d_Rod_read_42 rfl (Nat.le_of_ble_eq_true rfl) (by decide) (by decide) (c_Sheet_wholeBores_0 h hI l lZ lE f fZ fE n nZ nE z12 z12Z z12E z12e.symm (by omega)) (fun z14 h15 z14Z z14E p16 => ?_)
            obtain ⟨eh15, p16⟩ := p16
            subst eh15
            refine V_istore 6 [some (.ref 85), some (.int k), some (.int l), some (.int f), some (.int n), some (.ref 108), some (.int z14), none, none] d_Rod_read_45 (by decide) rfl rfl ?_
            refine V_aload_n 0 d_Rod_read_47 rfl rfl ?_
            refine V_getR fa_Rod_16 sk_85 rfl d_Rod_read_48 ?_
            refine V_aload_n 0 d_Rod_read_51 rfl rfl ?_
            refine V_getR fa_Rod_12 sk_85 rfl d_Rod_read_52 ?_
            obtain ⟨z17, z17Z, z17E, z17e⟩ : ∃ (y : Int32) (Y : Int), y.toInt = Y ∧ y = h.1 0 3 := ⟨_, _, rfl, rfl⟩
            obtain ⟨z18, z18Z, z18E, z18e⟩ : ∃ (y : Int32) (Y : Int), y.toInt = Y ∧ y = h.1 0 4 := ⟨_, _, rfl, rfl⟩
            refine N_callVV [.ref 0] [] cv_Rod_84 sk_17 rfl d_Rod_read_55 rfl (Nat.le_of_ble_eq_true rfl) (by decide) (by decide) (c_County_copyX_1_0 h hI z17 z17Z z17E z17e.symm z18 z18Z z18E z18e.symm) (fun h20 p21 => ?_)
            obtain ⟨hI22, fh20, p21⟩ := p21
            have f23 : fr S_Rod_readX h h20 := fr_call f0 fh20 rfl
            have P24 : sp2 h h20 := sp2_of p21 fh20 rfl
            refine V_iconst 0 d_Rod_read_58 (by decide) ?_
            refine V_istore 7 [some (.ref 85), some (.int k), some (.int l), some (.int f), some (.int n), some (.ref 108), some (.int z14), some (.int 0), none] d_Rod_read_59 (by decide) rfl rfl ?_
            have L25 : ∀ (nn : Nat) (v27 : Int32) (v27Z : Int) (h28 : Hp), v27.toInt = v27Z → Inv h28 → fr S_Rod_readX h h28 → 0 ≤ v27Z ∧ v27Z ≤ z14Z → sp2 h h28 → z14Z - v27Z < (nn : Int) → V R_Rod b_Rod_read 9 (some .int) 3 102 (q_Rod_readX h k kZ l lZ f fZ n nZ) h28 61 [some (.ref 85), some (.int k), some (.int l), some (.int f), some (.int n), some (.ref 108), some (.int z14), some (.int v27), none] [] := by
              intro nn
              induction nn with
              | zero => intro v27 v27Z h28 v27E Ih28 Fh28 q29 q30 hm31; exact absurd hm31 (by omega)
              | succ nn ihL25 =>
                intro v27 v27Z h28 v27E Ih28 Fh28 q29 q30 hm31
                have sp9 : sp2 h h28 := by assumption
                refine V_iload d_Rod_read_61 rfl ?_
                refine V_iload d_Rod_read_63 rfl ?_
                refine V_icmp_ge 137 v27E z14E d_Rod_read_65 (by decide) (fun c32 => ?_) (fun c32 => ?_)
                ·
                  refine V_aload_n 0 d_Rod_read_137 rfl rfl ?_
                  refine V_aload d_Rod_read_138 rfl ?_
                  refine V_iload_n 2 d_Rod_read_140 rfl rfl ?_
                  refine V_iload d_Rod_read_141 rfl ?_
                  refine V_iload d_Rod_read_143 rfl ?_
                  refine N_callVI [.int l, .int n, .int z14] [.ref 85] cv_Rod_306 sk_108 rfl d_Rod_read_145 rfl (Nat.le_of_ble_eq_true rfl) (by decide) (by decide) (c_Sheet_readFault_0 h28 Ih28 l lZ lE n nZ nE z14 z14Z z14E) (fun z33 h34 z33Z z33E p35 => ?_)
                  subst p35
                  refine N_putI fp_Rod_309 sk_85 rfl d_Rod_read_148 (fun h36 eh36 => ?_)
                  have hI37 : Inv h36 := inv_full Ih28 eh36 rfl
                  have f38 : fr S_Rod_readX h h36 := fr_put Fh28 eh36 rfl
                  have P39 : sp2 h h36 := sp2_put sp9 eh36 (by decide)
                  refine V_iload d_Rod_read_151 rfl ?_
                  exact V_iret rfl d_Rod_read_153 ⟨z14, rfl, ⟨hI37, f38, (sp2_c P39)⟩⟩
                ·
                  refine V_iload_n 3 d_Rod_read_68 rfl rfl ?_
                  refine V_iconst 3 d_Rod_read_69 (by decide) ?_
                  refine V_iload d_Rod_read_70 rfl ?_
                  refine V_imul tc_3 v27E (by omega) d_Rod_read_72 (fun z40 z40e z40E => ?_)
                  refine V_iadd fE z40E (by omega) d_Rod_read_73 (fun z41 z41e z41E => ?_)
                  refine V_istore 8 [some (.ref 85), some (.int k), some (.int l), some (.int f), some (.int n), some (.ref 108), some (.int z14), some (.int v27), some (.int z41)] d_Rod_read_74 (by decide) rfl rfl ?_
                  refine V_aload_n 0 d_Rod_read_76 rfl rfl ?_
                  refine V_getR fa_Rod_12 sk_85 rfl d_Rod_read_77 ?_
                  refine V_aload d_Rod_read_80 rfl ?_
                  refine V_getR fa_Rod_303 sk_108 rfl d_Rod_read_82 ?_
                  refine V_iload d_Rod_read_85 rfl ?_
                  refine N_iald sk_109 z41E (by omega) d_Rod_read_87 (fun z42 z42Z z42E z42e => ?_)
                  refine V_aload d_Rod_read_88 rfl ?_
                  refine V_getR fa_Rod_303 sk_108 rfl d_Rod_read_90 ?_
                  refine V_iload d_Rod_read_93 rfl ?_
                  refine V_iconst 1 d_Rod_read_95 (by decide) ?_
                  refine V_iadd z41E tc_1 (by omega) d_Rod_read_96 (fun z43 z43e z43E => ?_)
                  refine N_iald sk_109 z43E (by omega) d_Rod_read_97 (fun z44 z44Z z44E z44e => ?_)
                  refine V_aload d_Rod_read_98 rfl ?_
                  refine V_getR fa_Rod_303 sk_108 rfl d_Rod_read_100 ?_
                  refine V_iload d_Rod_read_103 rfl ?_
                  refine V_iconst 2 d_Rod_read_105 (by decide) ?_
                  refine V_iadd z41E tc_2 (by omega) d_Rod_read_106 (fun z45 z45e z45E => ?_)
                  refine N_iald sk_109 z45E (by omega) d_Rod_read_107 (fun z46 z46Z z46E z46e => ?_)
                  obtain ⟨z47, z47Z, z47E, z47e⟩ : ∃ (y : Int32) (Y : Int), y.toInt = Y ∧ y = h28.1 1 0 := ⟨_, _, rfl, rfl⟩
                  have g48 : 2 ≤ z47Z ∧ z47Z ≤ 4 := inv_at Ih28 z47E z47e rfl
                  obtain ⟨z49, z49Z, z49E, z49e⟩ : ∃ (y : Int32) (Y : Int), y.toInt = Y ∧ y = h28.1 1 1 := ⟨_, _, rfl, rfl⟩
                  have g50 : 2 ≤ z49Z ∧ z49Z ≤ 4 := inv_at Ih28 z49E z49e rfl
                  refine N_callVI [.int z42, .int z44, .int z46] [] cv_Rod_227 sk_0 rfl d_Rod_read_108 rfl (Nat.le_of_ble_eq_true rfl) (by decide) (by decide) (c_County_boreBy_0 h28 Ih28 z42 z42Z z42E z44 z44Z z44E z46 z46Z z46E z47 z47Z z47E z47e.symm z49 z49Z z49E z49e.symm) (fun z51 h52 z51Z z51E p53 => ?_)
                  obtain ⟨hI54, fh52⟩ := p53
                  have f55 : fr S_Rod_readX h h52 := fr_call Fh28 fh52 rfl
                  have P56 : sp2 h h52 := sp2_fr sp9 fh52 rfl
                  refine V_if_ge 131 z51E d_Rod_read_111 (by decide) (fun c57 => ?_) (fun c57 => ?_)
                  ·
                    obtain ⟨z58, z58E, z58e⟩ : ∃ y : Int32, y.toInt = v27Z + 1 ∧ y = v27 + Int32.ofInt 1 := ⟨_, ti_add v27E (by decide) (by omega), rfl⟩
                    refine V_iinc 7 [some (.ref 85), some (.int k), some (.int l), some (.int f), some (.int n), some (.ref 108), some (.int z14), some (.int z58), some (.int z41)] d_Rod_read_131 rfl z58e.symm (by decide) rfl rfl ?_
                    refine V_goto 61 d_Rod_read_134 (by decide) ?_
                    refine V_drop 8 [some (.ref 85), some (.int k), some (.int l), some (.int f), some (.int n), some (.ref 108), some (.int z14), some (.int z58), none] rfl ?_
                    exact ihL25 z58 ((v27Z + 1)) h52 z58E hI54 f55 (by omega) P56 (by omega)
                  ·
                    refine V_aload_n 0 d_Rod_read_114 rfl rfl ?_
                    refine V_getR fa_Rod_12 sk_85 rfl d_Rod_read_115 ?_
                    refine V_aload_n 0 d_Rod_read_118 rfl rfl ?_
                    refine V_getR fa_Rod_16 sk_85 rfl d_Rod_read_119 ?_
                    obtain ⟨z59, z59Z, z59E, z59e⟩ : ∃ (y : Int32) (Y : Int), y.toInt = Y ∧ y = h52.1 17 3 := ⟨_, _, rfl, rfl⟩
                    obtain ⟨z60, z60Z, z60E, z60e⟩ : ∃ (y : Int32) (Y : Int), y.toInt = Y ∧ y = h52.1 17 4 := ⟨_, _, rfl, rfl⟩
                    refine N_callVV [.ref 17] [] cv_Rod_84 sk_0 rfl d_Rod_read_122 rfl (Nat.le_of_ble_eq_true rfl) (by decide) (by decide) (c_County_copyX_0_1 h52 hI54 z59 z59Z z59E z59e.symm z60 z60Z z60E z60e.symm) (fun h62 p63 => ?_)
                    obtain ⟨hI64, fh62, p63⟩ := p63
                    have f65 : fr S_Rod_readX h h62 := fr_call f55 fh62 rfl
                    have P66 : cA h h62 := sp2_back P56 p63
                    refine V_bipush (-20) d_Rod_read_125 (by decide) ?_
                    refine V_iload d_Rod_read_127 rfl ?_
                    refine V_isub tc_m20 v27E (by omega) d_Rod_read_129 (fun z67 z67e z67E => ?_)
                    exact V_iret rfl d_Rod_read_130 ⟨z67, rfl, ⟨hI64, f65, P66⟩⟩
            exact L25 (Int.toNat ((z14Z - 0 : Int) + 1)) 0 0 h20 tc_0 hI22 f23 (by omega) P24 (by omega)
          ·
            refine V_aald (r := 110) sk_107 (by decide) kE (by omega) (by rw [c11]; rfl) d_Rod_read_33 ?_
            refine V_astore 5 [some (.ref 85), some (.int k), some (.int l), some (.int f), some (.int n), some (.ref 110), none, none, none] d_Rod_read_34 (by decide) rfl rfl ?_
            refine V_aload d_Rod_read_36 rfl ?_
            refine V_iload_n 2 d_Rod_read_38 rfl rfl ?_
            refine V_iload_n 3 d_Rod_read_39 rfl rfl ?_
            refine V_iload d_Rod_read_40 rfl ?_
            obtain ⟨z68, z68Z, z68E, z68e⟩ : ∃ (y : Int32) (Y : Int), y.toInt = Y ∧ y = h.1 110 2 := ⟨_, _, rfl, rfl⟩
            have g69 : 0 ≤ z68Z ∧ z68Z ≤ 40 := inv_at hI z68E z68e rfl
            refine N_callVI [.int l, .int f, .int n] [] cv_Rod_300 sk_110 rfl d_Rod_read_42 rfl (Nat.le_of_ble_eq_true rfl) (by decide) (by decide) (c_Sheet_wholeBores_1 h hI l lZ lE f fZ fE n nZ nE z68 z68Z z68E z68e.symm (by omega)) (fun z70 h71 z70Z z70E p72 => ?_)
            obtain ⟨eh71, p72⟩ := p72
            subst eh71
            refine V_istore 6 [some (.ref 85), some (.int k), some (.int l), some (.int f), some (.int n), some (.ref 110), some (.int z70), none, none] d_Rod_read_45 (by decide) rfl rfl ?_
            refine V_aload_n 0 d_Rod_read_47 rfl rfl ?_
            refine V_getR fa_Rod_16 sk_85 rfl d_Rod_read_48 ?_
            refine V_aload_n 0 d_Rod_read_51 rfl rfl ?_
            refine V_getR fa_Rod_12 sk_85 rfl d_Rod_read_52 ?_
            obtain ⟨z73, z73Z, z73E, z73e⟩ : ∃ (y : Int32) (Y : Int), y.toInt = Y ∧ y = h.1 0 3 := ⟨_, _, rfl, rfl⟩
            obtain ⟨z74, z74Z, z74E, z74e⟩ : ∃ (y : Int32) (Y : Int), y.toInt = Y ∧ y = h.1 0 4 := ⟨_, _, rfl, rfl⟩
            refine N_callVV [.ref 0] [] cv_Rod_84 sk_17 rfl d_Rod_read_55 rfl (Nat.le_of_ble_eq_true rfl) (by decide) (by decide) (c_County_copyX_1_0 h hI z73 z73Z z73E z73e.symm z74 z74Z z74E z74e.symm) (fun h76 p77 => ?_)
            obtain ⟨hI78, fh76, p77⟩ := p77
            have f79 : fr S_Rod_readX h h76 := fr_call f0 fh76 rfl
            have P80 : sp2 h h76 := sp2_of p77 fh76 rfl
            refine V_iconst 0 d_Rod_read_58 (by decide) ?_
            refine V_istore 7 [some (.ref 85), some (.int k), some (.int l), some (.int f), some (.int n), some (.ref 110), some (.int z70), some (.int 0), none] d_Rod_read_59 (by decide) rfl rfl ?_
            have L81 : ∀ (nn : Nat) (v83 : Int32) (v83Z : Int) (h84 : Hp), v83.toInt = v83Z → Inv h84 → fr S_Rod_readX h h84 → 0 ≤ v83Z ∧ v83Z ≤ z70Z → sp2 h h84 → z70Z - v83Z < (nn : Int) → V R_Rod b_Rod_read 9 (some .int) 3 102 (q_Rod_readX h k kZ l lZ f fZ n nZ) h84 61 [some (.ref 85), some (.int k), some (.int l), some (.int f), some (.int n), some (.ref 110), some (.int z70), some (.int v83), none] [] := by
              intro nn
              induction nn with
              | zero => intro v83 v83Z h84 v83E Ih84 Fh84 q85 q86 hm87; exact absurd hm87 (by omega)
              | succ nn ihL81 =>
                intro v83 v83Z h84 v83E Ih84 Fh84 q85 q86 hm87
                have sp9 : sp2 h h84 := by assumption
                refine V_iload d_Rod_read_61 rfl ?_
                refine V_iload d_Rod_read_63 rfl ?_
                refine V_icmp_ge 137 v83E z70E d_Rod_read_65 (by decide) (fun c88 => ?_) (fun c88 => ?_)
                ·
                  refine V_aload_n 0 d_Rod_read_137 rfl rfl ?_
                  refine V_aload d_Rod_read_138 rfl ?_
                  refine V_iload_n 2 d_Rod_read_140 rfl rfl ?_
                  refine V_iload d_Rod_read_141 rfl ?_
                  refine V_iload d_Rod_read_143 rfl ?_
                  refine N_callVI [.int l, .int n, .int z70] [.ref 85] cv_Rod_306 sk_110 rfl d_Rod_read_145 rfl (Nat.le_of_ble_eq_true rfl) (by decide) (by decide) (c_Sheet_readFault_1 h84 Ih84 l lZ lE n nZ nE z70 z70Z z70E) (fun z89 h90 z89Z z89E p91 => ?_)
                  subst p91
                  refine N_putI fp_Rod_309 sk_85 rfl d_Rod_read_148 (fun h92 eh92 => ?_)
                  have hI93 : Inv h92 := inv_full Ih84 eh92 rfl
                  have f94 : fr S_Rod_readX h h92 := fr_put Fh84 eh92 rfl
                  have P95 : sp2 h h92 := sp2_put sp9 eh92 (by decide)
                  refine V_iload d_Rod_read_151 rfl ?_
                  exact V_iret rfl d_Rod_read_153 ⟨z70, rfl, ⟨hI93, f94, (sp2_c P95)⟩⟩
                ·
                  refine V_iload_n 3 d_Rod_read_68 rfl rfl ?_
                  refine V_iconst 3 d_Rod_read_69 (by decide) ?_
                  refine V_iload d_Rod_read_70 rfl ?_
                  refine V_imul tc_3 v83E (by omega) d_Rod_read_72 (fun z96 z96e z96E => ?_)
                  refine V_iadd fE z96E (by omega) d_Rod_read_73 (fun z97 z97e z97E => ?_)
                  refine V_istore 8 [some (.ref 85), some (.int k), some (.int l), some (.int f), some (.int n), some (.ref 110), some (.int z70), some (.int v83), some (.int z97)] d_Rod_read_74 (by decide) rfl rfl ?_
                  refine V_aload_n 0 d_Rod_read_76 rfl rfl ?_
                  refine V_getR fa_Rod_12 sk_85 rfl d_Rod_read_77 ?_
                  refine V_aload d_Rod_read_80 rfl ?_
                  refine V_getR fa_Rod_303 sk_110 rfl d_Rod_read_82 ?_
                  refine V_iload d_Rod_read_85 rfl ?_
                  refine N_iald sk_111 z97E (by omega) d_Rod_read_87 (fun z98 z98Z z98E z98e => ?_)
                  refine V_aload d_Rod_read_88 rfl ?_
                  refine V_getR fa_Rod_303 sk_110 rfl d_Rod_read_90 ?_
                  refine V_iload d_Rod_read_93 rfl ?_
                  refine V_iconst 1 d_Rod_read_95 (by decide) ?_
                  refine V_iadd z97E tc_1 (by omega) d_Rod_read_96 (fun z99 z99e z99E => ?_)
                  refine N_iald sk_111 z99E (by omega) d_Rod_read_97 (fun z100 z100Z z100E z100e => ?_)
                  refine V_aload d_Rod_read_98 rfl ?_
                  refine V_getR fa_Rod_303 sk_110 rfl d_Rod_read_100 ?_
                  refine V_iload d_Rod_read_103 rfl ?_
                  refine V_iconst 2 d_Rod_read_105 (by decide) ?_
                  refine V_iadd z97E tc_2 (by omega) d_Rod_read_106 (fun z101 z101e z101E => ?_)
                  refine N_iald sk_111 z101E (by omega) d_Rod_read_107 (fun z102 z102Z z102E z102e => ?_)
                  obtain ⟨z103, z103Z, z103E, z103e⟩ : ∃ (y : Int32) (Y : Int), y.toInt = Y ∧ y = h84.1 1 0 := ⟨_, _, rfl, rfl⟩
                  have g104 : 2 ≤ z103Z ∧ z103Z ≤ 4 := inv_at Ih84 z103E z103e rfl
                  obtain ⟨z105, z105Z, z105E, z105e⟩ : ∃ (y : Int32) (Y : Int), y.toInt = Y ∧ y = h84.1 1 1 := ⟨_, _, rfl, rfl⟩
                  have g106 : 2 ≤ z105Z ∧ z105Z ≤ 4 := inv_at Ih84 z105E z105e rfl
                  refine N_callVI [.int z98, .int z100, .int z102] [] cv_Rod_227 sk_0 rfl d_Rod_read_108 rfl (Nat.le_of_ble_eq_true rfl) (by decide) (by decide) (c_County_boreBy_0 h84 Ih84 z98 z98Z z98E z100 z100Z z100E z102 z102Z z102E z103 z103Z z103E z103e.symm z105 z105Z z105E z105e.symm) (fun z107 h108 z107Z z107E p109 => ?_)
                  obtain ⟨hI110, fh108⟩ := p109
                  have f111 : fr S_Rod_readX h h108 := fr_call Fh84 fh108 rfl
                  have P112 : sp2 h h108 := sp2_fr sp9 fh108 rfl
                  refine V_if_ge 131 z107E d_Rod_read_111 (by decide) (fun c113 => ?_) (fun c113 => ?_)
                  ·
                    obtain ⟨z114, z114E, z114e⟩ : ∃ y : Int32, y.toInt = v83Z + 1 ∧ y = v83 + Int32.ofInt 1 := ⟨_, ti_add v83E (by decide) (by omega), rfl⟩
                    refine V_iinc 7 [some (.ref 85), some (.int k), some (.int l), some (.int f), some (.int n), some (.ref 110), some (.int z70), some (.int z114), some (.int z97)] d_Rod_read_131 rfl z114e.symm (by decide) rfl rfl ?_
                    refine V_goto 61 d_Rod_read_134 (by decide) ?_
                    refine V_drop 8 [some (.ref 85), some (.int k), some (.int l), some (.int f), some (.int n), some (.ref 110), some (.int z70), some (.int z114), none] rfl ?_
                    exact ihL81 z114 ((v83Z + 1)) h108 z114E hI110 f111 (by omega) P112 (by omega)
                  ·
                    refine V_aload_n 0 d_Rod_read_114 rfl rfl ?_
                    refine V_getR fa_Rod_12 sk_85 rfl d_Rod_read_115 ?_
                    refine V_aload_n 0 d_Rod_read_118 rfl rfl ?_
                    refine V_getR fa_Rod_16 sk_85 rfl d_Rod_read_119 ?_
                    obtain ⟨z115, z115Z, z115E, z115e⟩ : ∃ (y : Int32) (Y : Int), y.toInt = Y ∧ y = h108.1 17 3 := ⟨_, _, rfl, rfl⟩
                    obtain ⟨z116, z116Z, z116E, z116e⟩ : ∃ (y : Int32) (Y : Int), y.toInt = Y ∧ y = h108.1 17 4 := ⟨_, _, rfl, rfl⟩
                    refine N_callVV [.ref 17] [] cv_Rod_84 sk_0 rfl d_Rod_read_122 rfl (Nat.le_of_ble_eq_true rfl) (by decide) (by decide) (c_County_copyX_0_1 h108 hI110 z115 z115Z z115E z115e.symm z116 z116Z z116E z116e.symm) (fun h118 p119 => ?_)
                    obtain ⟨hI120, fh118, p119⟩ := p119
                    have f121 : fr S_Rod_readX h h118 := fr_call f111 fh118 rfl
                    have P122 : cA h h118 := sp2_back P112 p119
                    refine V_bipush (-20) d_Rod_read_125 (by decide) ?_
                    refine V_iload d_Rod_read_127 rfl ?_
                    refine V_isub tc_m20 v83E (by omega) d_Rod_read_129 (fun z123 z123e z123E => ?_)
                    exact V_iret rfl d_Rod_read_130 ⟨z123, rfl, ⟨hI120, f121, P122⟩⟩
            exact L81 (Int.toNat ((z70Z - 0 : Int) + 1)) 0 0 h76 tc_0 hI78 f79 (by omega) P80 (by omega)
          ·
            refine V_aald (r := 112) sk_107 (by decide) kE (by omega) (by rw [c11]; rfl) d_Rod_read_33 ?_
            refine V_astore 5 [some (.ref 85), some (.int k), some (.int l), some (.int f), some (.int n), some (.ref 112), none, none, none] d_Rod_read_34 (by decide) rfl rfl ?_
            refine V_aload d_Rod_read_36 rfl ?_
            refine V_iload_n 2 d_Rod_read_38 rfl rfl ?_
            refine V_iload_n 3 d_Rod_read_39 rfl rfl ?_
            refine V_iload d_Rod_read_40 rfl ?_
            obtain ⟨z124, z124Z, z124E, z124e⟩ : ∃ (y : Int32) (Y : Int), y.toInt = Y ∧ y = h.1 112 2 := ⟨_, _, rfl, rfl⟩
            have g125 : 0 ≤ z124Z ∧ z124Z ≤ 40 := inv_at hI z124E z124e rfl
            refine N_callVI [.int l, .int f, .int n] [] cv_Rod_300 sk_112 rfl d_Rod_read_42 rfl (Nat.le_of_ble_eq_true rfl) (by decide) (by decide) (c_Sheet_wholeBores_2 h hI l lZ lE f fZ fE n nZ nE z124 z124Z z124E z124e.symm (by omega)) (fun z126 h127 z126Z z126E p128 => ?_)
            obtain ⟨eh127, p128⟩ := p128
            subst eh127
            refine V_istore 6 [some (.ref 85), some (.int k), some (.int l), some (.int f), some (.int n), some (.ref 112), some (.int z126), none, none] d_Rod_read_45 (by decide) rfl rfl ?_
            refine V_aload_n 0 d_Rod_read_47 rfl rfl ?_
            refine V_getR fa_Rod_16 sk_85 rfl d_Rod_read_48 ?_
            refine V_aload_n 0 d_Rod_read_51 rfl rfl ?_
            refine V_getR fa_Rod_12 sk_85 rfl d_Rod_read_52 ?_
            obtain ⟨z129, z129Z, z129E, z129e⟩ : ∃ (y : Int32) (Y : Int), y.toInt = Y ∧ y = h.1 0 3 := ⟨_, _, rfl, rfl⟩
            obtain ⟨z130, z130Z, z130E, z130e⟩ : ∃ (y : Int32) (Y : Int), y.toInt = Y ∧ y = h.1 0 4 := ⟨_, _, rfl, rfl⟩
            refine N_callVV [.ref 0] [] cv_Rod_84 sk_17 rfl d_Rod_read_55 rfl (Nat.le_of_ble_eq_true rfl) (by decide) (by decide) (c_County_copyX_1_0 h hI z129 z129Z z129E z129e.symm z130 z130Z z130E z130e.symm) (fun h132 p133 => ?_)
            obtain ⟨hI134, fh132, p133⟩ := p133
            have f135 : fr S_Rod_readX h h132 := fr_call f0 fh132 rfl
            have P136 : sp2 h h132 := sp2_of p133 fh132 rfl
            refine V_iconst 0 d_Rod_read_58 (by decide) ?_
            refine V_istore 7 [some (.ref 85), some (.int k), some (.int l), some (.int f), some (.int n), some (.ref 112), some (.int z126), some (.int 0), none] d_Rod_read_59 (by decide) rfl rfl ?_
            have L137 : ∀ (nn : Nat) (v139 : Int32) (v139Z : Int) (h140 : Hp), v139.toInt = v139Z → Inv h140 → fr S_Rod_readX h h140 → 0 ≤ v139Z ∧ v139Z ≤ z126Z → sp2 h h140 → z126Z - v139Z < (nn : Int) → V R_Rod b_Rod_read 9 (some .int) 3 102 (q_Rod_readX h k kZ l lZ f fZ n nZ) h140 61 [some (.ref 85), some (.int k), some (.int l), some (.int f), some (.int n), some (.ref 112), some (.int z126), some (.int v139), none] [] := by
              intro nn
              induction nn with
              | zero => intro v139 v139Z h140 v139E Ih140 Fh140 q141 q142 hm143; exact absurd hm143 (by omega)
              | succ nn ihL137 =>
                intro v139 v139Z h140 v139E Ih140 Fh140 q141 q142 hm143
                have sp9 : sp2 h h140 := by assumption
                refine V_iload d_Rod_read_61 rfl ?_
                refine V_iload d_Rod_read_63 rfl ?_
                refine V_icmp_ge 137 v139E z126E d_Rod_read_65 (by decide) (fun c144 => ?_) (fun c144 => ?_)
                ·
                  refine V_aload_n 0 d_Rod_read_137 rfl rfl ?_
                  refine V_aload d_Rod_read_138 rfl ?_
                  refine V_iload_n 2 d_Rod_read_140 rfl rfl ?_
                  refine V_iload d_Rod_read_141 rfl ?_
                  refine V_iload d_Rod_read_143 rfl ?_
                  refine N_callVI [.int l, .int n, .int z126] [.ref 85] cv_Rod_306 sk_112 rfl d_Rod_read_145 rfl (Nat.le_of_ble_eq_true rfl) (by decide) (by decide) (c_Sheet_readFault_2 h140 Ih140 l lZ lE n nZ nE z126 z126Z z126E) (fun z145 h146 z145Z z145E p147 => ?_)
                  subst p147
                  refine N_putI fp_Rod_309 sk_85 rfl d_Rod_read_148 (fun h148 eh148 => ?_)
                  have hI149 : Inv h148 := inv_full Ih140 eh148 rfl
                  have f150 : fr S_Rod_readX h h148 := fr_put Fh140 eh148 rfl
                  have P151 : sp2 h h148 := sp2_put sp9 eh148 (by decide)
                  refine V_iload d_Rod_read_151 rfl ?_
                  exact V_iret rfl d_Rod_read_153 ⟨z126, rfl, ⟨hI149, f150, (sp2_c P151)⟩⟩
                ·
                  refine V_iload_n 3 d_Rod_read_68 rfl rfl ?_
                  refine V_iconst 3 d_Rod_read_69 (by decide) ?_
                  refine V_iload d_Rod_read_70 rfl ?_
                  refine V_imul tc_3 v139E (by omega) d_Rod_read_72 (fun z152 z152e z152E => ?_)
                  refine V_iadd fE z152E (by omega) d_Rod_read_73 (fun z153 z153e z153E => ?_)
                  refine V_istore 8 [some (.ref 85), some (.int k), some (.int l), some (.int f), some (.int n), some (.ref 112), some (.int z126), some (.int v139), some (.int z153)] d_Rod_read_74 (by decide) rfl rfl ?_
                  refine V_aload_n 0 d_Rod_read_76 rfl rfl ?_
                  refine V_getR fa_Rod_12 sk_85 rfl d_Rod_read_77 ?_
                  refine V_aload d_Rod_read_80 rfl ?_
                  refine V_getR fa_Rod_303 sk_112 rfl d_Rod_read_82 ?_
                  refine V_iload d_Rod_read_85 rfl ?_
                  refine N_iald sk_113 z153E (by omega) d_Rod_read_87 (fun z154 z154Z z154E z154e => ?_)
                  refine V_aload d_Rod_read_88 rfl ?_
                  refine V_getR fa_Rod_303 sk_112 rfl d_Rod_read_90 ?_
                  refine V_iload d_Rod_read_93 rfl ?_
                  refine V_iconst 1 d_Rod_read_95 (by decide) ?_
                  refine V_iadd z153E tc_1 (by omega) d_Rod_read_96 (fun z155 z155e z155E => ?_)
                  refine N_iald sk_113 z155E (by omega) d_Rod_read_97 (fun z156 z156Z z156E z156e => ?_)
                  refine V_aload d_Rod_read_98 rfl ?_
                  refine V_getR fa_Rod_303 sk_112 rfl d_Rod_read_100 ?_
                  refine V_iload d_Rod_read_103 rfl ?_
                  refine V_iconst 2 d_Rod_read_105 (by decide) ?_
                  refine V_iadd z153E tc_2 (by omega) d_Rod_read_106 (fun z157 z157e z157E => ?_)
                  refine N_iald sk_113 z157E (by omega) d_Rod_read_107 (fun z158 z158Z z158E z158e => ?_)
                  obtain ⟨z159, z159Z, z159E, z159e⟩ : ∃ (y : Int32) (Y : Int), y.toInt = Y ∧ y = h140.1 1 0 := ⟨_, _, rfl, rfl⟩
                  have g160 : 2 ≤ z159Z ∧ z159Z ≤ 4 := inv_at Ih140 z159E z159e rfl
                  obtain ⟨z161, z161Z, z161E, z161e⟩ : ∃ (y : Int32) (Y : Int), y.toInt = Y ∧ y = h140.1 1 1 := ⟨_, _, rfl, rfl⟩
                  have g162 : 2 ≤ z161Z ∧ z161Z ≤ 4 := inv_at Ih140 z161E z161e rfl
                  refine N_callVI [.int z154, .int z156, .int z158] [] cv_Rod_227 sk_0 rfl d_Rod_read_108 rfl (Nat.le_of_ble_eq_true rfl) (by decide) (by decide) (c_County_boreBy_0 h140 Ih140 z154 z154Z z154E z156 z156Z z156E z158 z158Z z158E z159 z159Z z159E z159e.symm z161 z161Z z161E z161e.symm) (fun z163 h164 z163Z z163E p165 => ?_)
                  obtain ⟨hI166, fh164⟩ := p165
                  have f167 : fr S_Rod_readX h h164 := fr_call Fh140 fh164 rfl
                  have P168 : sp2 h h164 := sp2_fr sp9 fh164 rfl
                  refine V_if_ge 131 z163E d_Rod_read_111 (by decide) (fun c169 => ?_) (fun c169 => ?_)
                  ·
                    obtain ⟨z170, z170E, z170e⟩ : ∃ y : Int32, y.toInt = v139Z + 1 ∧ y = v139 + Int32.ofInt 1 := ⟨_, ti_add v139E (by decide) (by omega), rfl⟩
                    refine V_iinc 7 [some (.ref 85), some (.int k), some (.int l), some (.int f), some (.int n), some (.ref 112), some (.int z126), some (.int z170), some (.int z153)] d_Rod_read_131 rfl z170e.symm (by decide) rfl rfl ?_
                    refine V_goto 61 d_Rod_read_134 (by decide) ?_
                    refine V_drop 8 [some (.ref 85), some (.int k), some (.int l), some (.int f), some (.int n), some (.ref 112), some (.int z126), some (.int z170), none] rfl ?_
                    exact ihL137 z170 ((v139Z + 1)) h164 z170E hI166 f167 (by omega) P168 (by omega)
                  ·
                    refine V_aload_n 0 d_Rod_read_114 rfl rfl ?_
                    refine V_getR fa_Rod_12 sk_85 rfl d_Rod_read_115 ?_
                    refine V_aload_n 0 d_Rod_read_118 rfl rfl ?_
                    refine V_getR fa_Rod_16 sk_85 rfl d_Rod_read_119 ?_
                    obtain ⟨z171, z171Z, z171E, z171e⟩ : ∃ (y : Int32) (Y : Int), y.toInt = Y ∧ y = h164.1 17 3 := ⟨_, _, rfl, rfl⟩
                    obtain ⟨z172, z172Z, z172E, z172e⟩ : ∃ (y : Int32) (Y : Int), y.toInt = Y ∧ y = h164.1 17 4 := ⟨_, _, rfl, rfl⟩
                    refine N_callVV [.ref 17] [] cv_Rod_84 sk_0 rfl d_Rod_read_122 rfl (Nat.le_of_ble_eq_true rfl) (by decide) (by decide) (c_County_copyX_0_1 h164 hI166 z171 z171Z z171E z171e.symm z172 z172Z z172E z172e.symm) (fun h174 p175 => ?_)
                    obtain ⟨hI176, fh174, p175⟩ := p175
                    have f177 : fr S_Rod_readX h h174 := fr_call f167 fh174 rfl
                    have P178 : cA h h174 := sp2_back P168 p175
                    refine V_bipush (-20) d_Rod_read_125 (by decide) ?_
                    refine V_iload d_Rod_read_127 rfl ?_
                    refine V_isub tc_m20 v139E (by omega) d_Rod_read_129 (fun z179 z179e z179E => ?_)
                    exact V_iret rfl d_Rod_read_130 ⟨z179, rfl, ⟨hI176, f177, P178⟩⟩
            exact L137 (Int.toNat ((z126Z - 0 : Int) + 1)) 0 0 h132 tc_0 hI134 f135 (by omega) P136 (by omega)
          ·
            refine V_aald (r := 114) sk_107 (by decide) kE (by omega) (by rw [c11]; rfl) d_Rod_read_33 ?_
            refine V_astore 5 [some (.ref 85), some (.int k), some (.int l), some (.int f), some (.int n), some (.ref 114), none, none, none] d_Rod_read_34 (by decide) rfl rfl ?_
            refine V_aload d_Rod_read_36 rfl ?_
            refine V_iload_n 2 d_Rod_read_38 rfl rfl ?_
            refine V_iload_n 3 d_Rod_read_39 rfl rfl ?_
            refine V_iload d_Rod_read_40 rfl ?_
            obtain ⟨z180, z180Z, z180E, z180e⟩ : ∃ (y : Int32) (Y : Int), y.toInt = Y ∧ y = h.1 114 2 := ⟨_, _, rfl, rfl⟩
            have g181 : 0 ≤ z180Z ∧ z180Z ≤ 40 := inv_at hI z180E z180e rfl
            refine N_callVI [.int l, .int f, .int n] [] cv_Rod_300 sk_114 rfl d_Rod_read_42 rfl (Nat.le_of_ble_eq_true rfl) (by decide) (by decide) (c_Sheet_wholeBores_3 h hI l lZ lE f fZ fE n nZ nE z180 z180Z z180E z180e.symm (by omega)) (fun z182 h183 z182Z z182E p184 => ?_)
            obtain ⟨eh183, p184⟩ := p184
            subst eh183
            refine V_istore 6 [some (.ref 85), some (.int k), some (.int l), some (.int f), some (.int n), some (.ref 114), some (.int z182), none, none] d_Rod_read_45 (by decide) rfl rfl ?_
            refine V_aload_n 0 d_Rod_read_47 rfl rfl ?_
            refine V_getR fa_Rod_16 sk_85 rfl d_Rod_read_48 ?_
            refine V_aload_n 0 d_Rod_read_51 rfl rfl ?_
            refine V_getR fa_Rod_12 sk_85 rfl d_Rod_read_52 ?_
            obtain ⟨z185, z185Z, z185E, z185e⟩ : ∃ (y : Int32) (Y : Int), y.toInt = Y ∧ y = h.1 0 3 := ⟨_, _, rfl, rfl⟩
            obtain ⟨z186, z186Z, z186E, z186e⟩ : ∃ (y : Int32) (Y : Int), y.toInt = Y ∧ y = h.1 0 4 := ⟨_, _, rfl, rfl⟩
            refine N_callVV [.ref 0] [] cv_Rod_84 sk_17 rfl d_Rod_read_55 rfl (Nat.le_of_ble_eq_true rfl) (by decide) (by decide) (c_County_copyX_1_0 h hI z185 z185Z z185E z185e.symm z186 z186Z z186E z186e.symm) (fun h188 p189 => ?_)
            obtain ⟨hI190, fh188, p189⟩ := p189
            have f191 : fr S_Rod_readX h h188 := fr_call f0 fh188 rfl
            have P192 : sp2 h h188 := sp2_of p189 fh188 rfl
            refine V_iconst 0 d_Rod_read_58 (by decide) ?_
            refine V_istore 7 [some (.ref 85), some (.int k), some (.int l), some (.int f), some (.int n), some (.ref 114), some (.int z182), some (.int 0), none] d_Rod_read_59 (by decide) rfl rfl ?_
            have L193 : ∀ (nn : Nat) (v195 : Int32) (v195Z : Int) (h196 : Hp), v195.toInt = v195Z → Inv h196 → fr S_Rod_readX h h196 → 0 ≤ v195Z ∧ v195Z ≤ z182Z → sp2 h h196 → z182Z - v195Z < (nn : Int) → V R_Rod b_Rod_read 9 (some .int) 3 102 (q_Rod_readX h k kZ l lZ f fZ n nZ) h196 61 [some (.ref 85), some (.int k), some (.int l), some (.int f), some (.int n), some (.ref 114), some (.int z182), some (.int v195), none] [] := by
              intro nn
              induction nn with
              | zero => intro v195 v195Z h196 v195E Ih196 Fh196 q197 q198 hm199; exact absurd hm199 (by omega)
              | succ nn ihL193 =>
                intro v195 v195Z h196 v195E Ih196 Fh196 q197 q198 hm199
                have sp9 : sp2 h h196 := by assumption
                refine V_iload d_Rod_read_61 rfl ?_
                refine V_iload d_Rod_read_63 rfl ?_
                refine V_icmp_ge 137 v195E z182E d_Rod_read_65 (by decide) (fun c200 => ?_) (fun c200 => ?_)
                ·
                  refine V_aload_n 0 d_Rod_read_137 rfl rfl ?_
                  refine V_aload d_Rod_read_138 rfl ?_
                  refine V_iload_n 2 d_Rod_read_140 rfl rfl ?_
                  refine V_iload d_Rod_read_141 rfl ?_
                  refine V_iload d_Rod_read_143 rfl ?_
                  refine N_callVI [.int l, .int n, .int z182] [.ref 85] cv_Rod_306 sk_114 rfl d_Rod_read_145 rfl (Nat.le_of_ble_eq_true rfl) (by decide) (by decide) (c_Sheet_readFault_3 h196 Ih196 l lZ lE n nZ nE z182 z182Z z182E) (fun z201 h202 z201Z z201E p203 => ?_)
                  subst p203
                  refine N_putI fp_Rod_309 sk_85 rfl d_Rod_read_148 (fun h204 eh204 => ?_)
                  have hI205 : Inv h204 := inv_full Ih196 eh204 rfl
                  have f206 : fr S_Rod_readX h h204 := fr_put Fh196 eh204 rfl
                  have P207 : sp2 h h204 := sp2_put sp9 eh204 (by decide)
                  refine V_iload d_Rod_read_151 rfl ?_
                  exact V_iret rfl d_Rod_read_153 ⟨z182, rfl, ⟨hI205, f206, (sp2_c P207)⟩⟩
                ·
                  refine V_iload_n 3 d_Rod_read_68 rfl rfl ?_
                  refine V_iconst 3 d_Rod_read_69 (by decide) ?_
                  refine V_iload d_Rod_read_70 rfl ?_
                  refine V_imul tc_3 v195E (by omega) d_Rod_read_72 (fun z208 z208e z208E => ?_)
                  refine V_iadd fE z208E (by omega) d_Rod_read_73 (fun z209 z209e z209E => ?_)
                  refine V_istore 8 [some (.ref 85), some (.int k), some (.int l), some (.int f), some (.int n), some (.ref 114), some (.int z182), some (.int v195), some (.int z209)] d_Rod_read_74 (by decide) rfl rfl ?_
                  refine V_aload_n 0 d_Rod_read_76 rfl rfl ?_
                  refine V_getR fa_Rod_12 sk_85 rfl d_Rod_read_77 ?_
                  refine V_aload d_Rod_read_80 rfl ?_
                  refine V_getR fa_Rod_303 sk_114 rfl d_Rod_read_82 ?_
                  refine V_iload d_Rod_read_85 rfl ?_
                  refine N_iald sk_115 z209E (by omega) d_Rod_read_87 (fun z210 z210Z z210E z210e => ?_)
                  refine V_aload d_Rod_read_88 rfl ?_
                  refine V_getR fa_Rod_303 sk_114 rfl d_Rod_read_90 ?_
                  refine V_iload d_Rod_read_93 rfl ?_
                  refine V_iconst 1 d_Rod_read_95 (by decide) ?_
                  refine V_iadd z209E tc_1 (by omega) d_Rod_read_96 (fun z211 z211e z211E => ?_)
                  refine N_iald sk_115 z211E (by omega) d_Rod_read_97 (fun z212 z212Z z212E z212e => ?_)
                  refine V_aload d_Rod_read_98 rfl ?_
                  refine V_getR fa_Rod_303 sk_114 rfl d_Rod_read_100 ?_
                  refine V_iload d_Rod_read_103 rfl ?_
                  refine V_iconst 2 d_Rod_read_105 (by decide) ?_
                  refine V_iadd z209E tc_2 (by omega) d_Rod_read_106 (fun z213 z213e z213E => ?_)
                  refine N_iald sk_115 z213E (by omega) d_Rod_read_107 (fun z214 z214Z z214E z214e => ?_)
                  obtain ⟨z215, z215Z, z215E, z215e⟩ : ∃ (y : Int32) (Y : Int), y.toInt = Y ∧ y = h196.1 1 0 := ⟨_, _, rfl, rfl⟩
                  have g216 : 2 ≤ z215Z ∧ z215Z ≤ 4 := inv_at Ih196 z215E z215e rfl
                  obtain ⟨z217, z217Z, z217E, z217e⟩ : ∃ (y : Int32) (Y : Int), y.toInt = Y ∧ y = h196.1 1 1 := ⟨_, _, rfl, rfl⟩
                  have g218 : 2 ≤ z217Z ∧ z217Z ≤ 4 := inv_at Ih196 z217E z217e rfl
                  refine N_callVI [.int z210, .int z212, .int z214] [] cv_Rod_227 sk_0 rfl d_Rod_read_108 rfl (Nat.le_of_ble_eq_true rfl) (by decide) (by decide) (c_County_boreBy_0 h196 Ih196 z210 z210Z z210E z212 z212Z z212E z214 z214Z z214E z215 z215Z z215E z215e.symm z217 z217Z z217E z217e.symm) (fun z219 h220 z219Z z219E p221 => ?_)
                  obtain ⟨hI222, fh220⟩ := p221
                  have f223 : fr S_Rod_readX h h220 := fr_call Fh196 fh220 rfl
                  have P224 : sp2 h h220 := sp2_fr sp9 fh220 rfl
                  refine V_if_ge 131 z219E d_Rod_read_111 (by decide) (fun c225 => ?_) (fun c225 => ?_)
                  ·
                    obtain ⟨z226, z226E, z226e⟩ : ∃ y : Int32, y.toInt = v195Z + 1 ∧ y = v195 + Int32.ofInt 1 := ⟨_, ti_add v195E (by decide) (by omega), rfl⟩
                    refine V_iinc 7 [some (.ref 85), some (.int k), some (.int l), some (.int f), some (.int n), some (.ref 114), some (.int z182), some (.int z226), some (.int z209)] d_Rod_read_131 rfl z226e.symm (by decide) rfl rfl ?_
                    refine V_goto 61 d_Rod_read_134 (by decide) ?_
                    refine V_drop 8 [some (.ref 85), some (.int k), some (.int l), some (.int f), some (.int n), some (.ref 114), some (.int z182), some (.int z226), none] rfl ?_
                    exact ihL193 z226 ((v195Z + 1)) h220 z226E hI222 f223 (by omega) P224 (by omega)
                  ·
                    refine V_aload_n 0 d_Rod_read_114 rfl rfl ?_
                    refine V_getR fa_Rod_12 sk_85 rfl d_Rod_read_115 ?_
                    refine V_aload_n 0 d_Rod_read_118 rfl rfl ?_
                    refine V_getR fa_Rod_16 sk_85 rfl d_Rod_read_119 ?_
                    obtain ⟨z227, z227Z, z227E, z227e⟩ : ∃ (y : Int32) (Y : Int), y.toInt = Y ∧ y = h220.1 17 3 := ⟨_, _, rfl, rfl⟩
                    obtain ⟨z228, z228Z, z228E, z228e⟩ : ∃ (y : Int32) (Y : Int), y.toInt = Y ∧ y = h220.1 17 4 := ⟨_, _, rfl, rfl⟩
                    refine N_callVV [.ref 17] [] cv_Rod_84 sk_0 rfl d_Rod_read_122 rfl (Nat.le_of_ble_eq_true rfl) (by decide) (by decide) (c_County_copyX_0_1 h220 hI222 z227 z227Z z227E z227e.symm z228 z228Z z228E z228e.symm) (fun h230 p231 => ?_)
                    obtain ⟨hI232, fh230, p231⟩ := p231
                    have f233 : fr S_Rod_readX h h230 := fr_call f223 fh230 rfl
                    have P234 : cA h h230 := sp2_back P224 p231
                    refine V_bipush (-20) d_Rod_read_125 (by decide) ?_
                    refine V_iload d_Rod_read_127 rfl ?_
                    refine V_isub tc_m20 v195E (by omega) d_Rod_read_129 (fun z235 z235e z235E => ?_)
                    exact V_iret rfl d_Rod_read_130 ⟨z235, rfl, ⟨hI232, f233, P234⟩⟩
            exact L193 (Int.toNat ((z182Z - 0 : Int) + 1)) 0 0 h188 tc_0 hI190 f191 (by omega) P192 (by omega)
        ·
          refine V_iconst (-1) d_Rod_read_26 (by decide) ?_
          exact V_iret rfl d_Rod_read_27 ⟨(-1), rfl, ⟨hI, f0, (fun _ _ _ _ => rfl)⟩⟩
