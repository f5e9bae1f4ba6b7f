def S_Reader_readLineX : List (Nat × Option Nat) := [(89, some 2), (89, some 3), (89, some 4), (89, some 5), (88, some 5), (88, some 6), (88, some 4), (91, none), (92, none), (69, none), (70, none), (71, none), (72, none), (73, none), (74, none), (76, none), (68, some 3), (68, some 4), (75, some 4), (77, none), (78, none), (79, none)]
abbrev q_Reader_readLineX (h : Hp) (b : Int → Int) (T : Nat → Int → Int) (D : Nat → Int) (p0 : Int) (s : Int32) (sZ : Int) (q : Int32) (qZ : Int) (f : Int32) (fZ : Int) (u : Int32) (uZ : Int) (a : Int32) (aZ : Int) (w : Int32) (wZ : Int) : Option Value → Hp → Prop := pInt (fun r h' => Inv h' ∧ fr S_Reader_readLineX h h' ∧ ∃ (x : Int32) (xZ : Int), x.toInt = xZ ∧ h'.1 89 4 = x ∧ ∃ (e : Int32) (eZ : Int), e.toInt = eZ ∧ h'.1 88 6 = e ∧ ∃ (y : Int32) (yZ : Int), y.toInt = yZ ∧ h'.1 88 5 = y ∧ (r.toInt = 1 ∧ x_line b T (D 86) p0 = (0, xZ) ∧ eZ = 0 ∧ uZ < xZ ∧ xZ ≤ sZ ∧ RC h' (x_T b T p0) (x_D b D p0) ∨ r.toInt = 0 ∧ x_line b T (D 86) p0 = (eZ, yZ) ∧ eZ ≠ 0))
set_option maxRecDepth 100000 in
theorem c_Reader_readLineX (h : Hp) (b : Int → Int) (T : Nat → Int → Int) (D : Nat → Int) (p0 : Int) (hI : Inv h) (s : Int32) (sZ : Int) (sE : s.toInt = sZ) (sK : h.1 89 1 = s) (q : Int32) (qZ : Int) (qE : q.toInt = qZ) (qK : h.1 89 2 = q) (f : Int32) (fZ : Int) (fE : f.toInt = fZ) (fK : h.1 89 3 = f) (u : Int32) (uZ : Int) (uE : u.toInt = uZ) (uK : h.1 89 4 = u) (a : Int32) (aZ : Int) (aE : a.toInt = aZ) (aK : h.1 88 5 = a) (w : Int32) (wZ : Int) (wE : w.toInt = wZ) (wK : h.1 88 6 = w) (hy0 : TP h 90 sZ b) (hy1 : 0 ≤ fZ ∧ fZ ≤ uZ ∧ uZ ≤ sZ ∧ wZ = 0) (hy2 : RC h T D) (hy3 : qZ = x_kd b p0 ∧ fZ = x_fr b p0 ∧ (qZ = 4 ∨ uZ = x_en b p0)) : Ct y_Reader_readLine b_Reader_readLine 3 (some .boolean) 7 149 [.ref 88] h (q_Reader_readLineX h b T D p0 s sZ q qZ f fZ u uZ a aZ w wZ) := by
  refine ct_ow R_Reader [some (.ref 88), none, none] rfl (by decide) rfl (Nat.le_of_ble_eq_true rfl) ?_
  have f0 : fr S_Reader_readLineX h h := fr_rf
  have g1 : 0 ≤ sZ ∧ sZ ≤ 160 := inv_at hI sE sK.symm rfl
  have g2 : 0 ≤ fZ ∧ fZ ≤ 160 := inv_at hI fE fK.symm rfl
  have g3 : 0 ≤ uZ ∧ uZ ≤ 160 := inv_at hI uE uK.symm rfl
  refine V_aload_n 0 d_Reader_readLine_0 rfl rfl ?_
  refine V_iconst 1 d_Reader_readLine_1 (by decide) ?_
  refine N_callVI [.int 1] [] cv_Reader_84 sk_88 rfl d_Reader_readLine_2 rfl (Nat.le_of_ble_eq_true rfl) (by decide) (by decide) (c_Reader_isKindX h hI 1 1 tc_1 q qZ qE qK f fZ fE fK a aZ aE aK w wZ wE wK) (fun z4 h5 z4Z z4E p6 => ?_)
  obtain ⟨hI7, fh5, o9, o9Z, o9E, o9K, o10, o10Z, o10E, o10K, p6⟩ := p6
  have f8 : fr S_Reader_readLineX h h5 := fr_call f0 fh5 rfl
  have R11 : RC h5 T D := RC_fr fh5 rfl hy2
  refine V_if_ne 10 z4E d_Reader_readLine_5 (by decide) (fun c12 => ?_) (fun c12 => ?_)
  ·
    replace p6 := (p6.resolve_left (fun q => by omega)).resolve_right (fun q => by omega)
    refine V_aload_n 0 d_Reader_readLine_10 rfl rfl ?_
    refine N_callVI [] [] cv_Reader_88 sk_88 rfl d_Reader_readLine_11 rfl (Nat.le_of_ble_eq_true rfl) (by decide) (by decide) (c_Reader_lineBegunX h5 b hI7 s sZ sE (kn_call fh5 sK rfl) q qZ qE (kn_call fh5 qK rfl) f fZ fE (kn_call fh5 fK rfl) u uZ uE (kn_call fh5 uK rfl) (TP_fr f8 (fun _ => rfl) hy0) (by omega)) (fun z13 h14 z13Z z13E p15 => ?_)
    obtain ⟨eh14, p15⟩ := p15
    subst eh14
    refine V_istore_n 1 [some (.ref 88), some (.int z13), none] d_Reader_readLine_14 rfl (by decide) rfl rfl ?_
    have g16 := x_ln_b b fZ uZ
    have hX : x_li b p0 = x_ln b fZ uZ := by unfold x_li; rw [show x_fr b p0 = fZ by omega, show x_en b p0 = uZ by omega]
    refine V_iload_n 1 d_Reader_readLine_15 rfl rfl ?_
    refine V_if_ge 32 z13E d_Reader_readLine_16 (by decide) (fun c17 => ?_) (fun c17 => ?_)
    ·
      rcases (by omega : z13Z = 0 ∨ z13Z = 1 ∨ z13Z = 2 ∨ z13Z = 3 ∨ z13Z = 4 ∨ z13Z = 5 ∨ z13Z = 6 ∨ z13Z = 7 ∨ z13Z = 8 ∨ z13Z = 9) with c18 | c18 | c18 | c18 | c18 | c18 | c18 | c18 | c18 | c18
      ·
        obtain rfl : z13 = 0 := (ti_eq z13E tc_0).mpr c18
        subst c18
        have hL : x_li b p0 = 0 := by omega
        refine V_iload_n 1 d_Reader_readLine_32 rfl rfl ?_
        refine N_callSI [.int 0] [] cs_Reader_91 d_Reader_readLine_33 rfl (Nat.le_of_ble_eq_true rfl) (by decide) (by decide) (c_Reader_isOnceOnlyX_0 h5) (fun z19 h20 z19Z z19E p21 => ?_)
        obtain ⟨eh20, p21⟩ := p21
        subst eh20
        refine V_if_eq 61 z19E d_Reader_readLine_36 (by decide) (fun c22 => ?_) (fun c22 => ?_)
        ·
          exact absurd c22 (by omega)
        ·
          refine V_aload_n 0 d_Reader_readLine_39 rfl rfl ?_
          refine V_getR fa_Reader_29 sk_88 rfl d_Reader_readLine_40 ?_
          refine V_iload_n 1 d_Reader_readLine_43 rfl rfl ?_
          refine N_iald sk_92 tc_0 (by omega) d_Reader_readLine_44 (fun z23 z23Z z23E z23e => ?_)
          have g24 : z23Z = 0 ∧ T 0 0 = 0 ∨ z23Z ≠ 0 ∧ T 0 0 = 1 := by have q := R11.1.2 0 (by decide); unfold x_ON at q; rw [show h5.1 92 0 = z23 from z23e.symm, z23E] at q; exact q
          refine V_if_eq 61 z23E d_Reader_readLine_45 (by decide) (fun c25 => ?_) (fun c25 => ?_)
          ·
            refine V_iload_n 1 d_Reader_readLine_61 rfl rfl ?_
            refine V_bipush 9 d_Reader_readLine_62 (by decide) ?_
            refine V_icmp_ne 95 tc_0 tc_9 d_Reader_readLine_64 (by decide) (fun c26 => ?_) (fun c26 => ?_)
            ·
              have hH : x_cH b T (D 86) p0 = 0 := by have q := x_cH_s b T (D 86) p0; omega
              refine V_iload_n 1 d_Reader_readLine_95 rfl rfl ?_
              refine V_bipush 8 d_Reader_readLine_96 (by decide) ?_
              refine V_icmp_ne 110 tc_0 tc_8 d_Reader_readLine_98 (by decide) (fun c27 => ?_) (fun c27 => ?_)
              ·
                refine V_iconst 0 d_Reader_readLine_110 (by decide) ?_
                refine V_istore_n 2 [some (.ref 88), some (.int 0), some (.int 0)] d_Reader_readLine_111 rfl (by decide) rfl rfl ?_
                refine V_iload_n 2 d_Reader_readLine_112 rfl rfl ?_
                refine V_gets (v := .ref 132) zN ws_Reader_106 d_Reader_readLine_113 ?_
                refine V_iload_n 1 d_Reader_readLine_116 rfl rfl ?_
                refine V_tald roN tc_0 (by decide) d_Reader_readLine_117 (fun z28 z28Z z28E z28e => ?_)
                obtain rfl : z28 = 2 := z28e.trans rfl
                refine V_icmp_ge 138 tc_0 tc_2 d_Reader_readLine_118 (by decide) (fun c29 => ?_) (fun c29 => ?_)
                ·
                  exact absurd c29 (by decide)
                ·
                  refine V_aload_n 0 d_Reader_readLine_121 rfl rfl ?_
                  refine V_iload_n 1 d_Reader_readLine_122 rfl rfl ?_
                  refine V_iload_n 2 d_Reader_readLine_123 rfl rfl ?_
                  refine N_callVI [.int 0, .int 0] [] cv_Reader_109 sk_88 rfl d_Reader_readLine_124 rfl (Nat.le_of_ble_eq_true rfl) (by decide) (by decide) (c_Reader_readNumberX_0_0 h5 b T hI7 s sZ sE (kn_call fh5 sK rfl) u uZ uE (kn_call fh5 uK rfl) o10 o10Z o10E o10K o9 o9Z o9E o9K (TP_fr f8 (fun _ => rfl) hy0) (by omega)) (fun z30 h31 z30Z z30E p32 => ?_)
                  obtain ⟨hI33, fh31, o35, o35Z, o35E, o35K, o36, o36Z, o36E, o36K, o37, o37Z, o37E, o37K, o38, o38Z, o38E, o38K, o39, o39Z, o39E, o39K, o40, o40Z, o40E, o40K, o41, o41Z, o41E, o41K, p32⟩ := p32
                  have f34 : fr S_Reader_readLineX h h31 := fr_call f8 fh31 rfl
                  have R42 : RC h31 T D := RC_fr fh31 rfl R11
                  have g43 : 0 ≤ o36Z ∧ o36Z ≤ 160 := inv_at hI33 o36E o36K.symm rfl
                  have g44 : 0 ≤ o37Z ∧ o37Z ≤ 160 := inv_at hI33 o37E o37K.symm rfl
                  refine V_if_ne 132 z30E d_Reader_readLine_127 (by decide) (fun c45 => ?_) (fun c45 => ?_)
                  ·
                    replace p32 := p32.resolve_right (fun q => by omega)
                    obtain rfl : o37Z = x_en b uZ := by omega
                    obtain rfl : o41Z = x_vl b uZ := by omega
                    refine V_iinc (v := 1) 2 [some (.ref 88), some (.int 0), some (.int 1)] d_Reader_readLine_132 rfl (by decide) (by decide) rfl rfl ?_
                    refine V_goto 112 d_Reader_readLine_135 (by decide) ?_
                    refine V_iload_n 2 d_Reader_readLine_112 rfl rfl ?_
                    refine V_gets (v := .ref 132) zN ws_Reader_106 d_Reader_readLine_113 ?_
                    refine V_iload_n 1 d_Reader_readLine_116 rfl rfl ?_
                    refine V_tald roN tc_0 (by decide) d_Reader_readLine_117 (fun z47 z47Z z47E z47e => ?_)
                    obtain rfl : z47 = 2 := z47e.trans rfl
                    refine V_icmp_ge 138 tc_1 tc_2 d_Reader_readLine_118 (by decide) (fun c48 => ?_) (fun c48 => ?_)
                    ·
                      exact absurd c48 (by decide)
                    ·
                      refine V_aload_n 0 d_Reader_readLine_121 rfl rfl ?_
                      refine V_iload_n 1 d_Reader_readLine_122 rfl rfl ?_
                      refine V_iload_n 2 d_Reader_readLine_123 rfl rfl ?_
                      refine N_callVI [.int 0, .int 1] [] cv_Reader_109 sk_88 rfl d_Reader_readLine_124 rfl (Nat.le_of_ble_eq_true rfl) (by decide) (by decide) (c_Reader_readNumberX_0_1 h31 b T hI33 s sZ sE (kn_call fh31 (kn_call fh5 sK rfl) rfl) o37 ((x_en b uZ)) o37E o37K o40 o40Z o40E o40K o39 o39Z o39E o39K (TP_fr f34 (fun _ => rfl) hy0) (by omega)) (fun z49 h50 z49Z z49E p51 => ?_)
                      obtain ⟨hI52, fh50, o54, o54Z, o54E, o54K, o55, o55Z, o55E, o55K, o56, o56Z, o56E, o56K, o57, o57Z, o57E, o57K, o58, o58Z, o58E, o58K, o59, o59Z, o59E, o59K, o60, o60Z, o60E, o60K, p51⟩ := p51
                      have f53 : fr S_Reader_readLineX h h50 := fr_call f34 fh50 rfl
                      have R61 : RC h50 T D := RC_fr fh50 rfl R42
                      have g62 : 0 ≤ o55Z ∧ o55Z ≤ 160 := inv_at hI52 o55E o55K.symm rfl
                      have g63 : 0 ≤ o56Z ∧ o56Z ≤ 160 := inv_at hI52 o56E o56K.symm rfl
                      refine V_if_ne 132 z49E d_Reader_readLine_127 (by decide) (fun c64 => ?_) (fun c64 => ?_)
                      ·
                        replace p51 := p51.resolve_right (fun q => by omega)
                        obtain rfl : o56Z = x_en b ((x_en b uZ)) := by omega
                        obtain rfl : o60Z = x_vl b ((x_en b uZ)) := by omega
                        refine V_iinc (v := 2) 2 [some (.ref 88), some (.int 0), some (.int 2)] d_Reader_readLine_132 rfl (by decide) (by decide) rfl rfl ?_
                        refine V_goto 112 d_Reader_readLine_135 (by decide) ?_
                        refine V_iload_n 2 d_Reader_readLine_112 rfl rfl ?_
                        refine V_gets (v := .ref 132) zN ws_Reader_106 d_Reader_readLine_113 ?_
                        refine V_iload_n 1 d_Reader_readLine_116 rfl rfl ?_
                        refine V_tald roN tc_0 (by decide) d_Reader_readLine_117 (fun z66 z66Z z66E z66e => ?_)
                        obtain rfl : z66 = 2 := z66e.trans rfl
                        refine V_icmp_ge 138 tc_2 tc_2 d_Reader_readLine_118 (by decide) (fun c67 => ?_) (fun c67 => ?_)
                        ·
                          refine V_aload_n 0 d_Reader_readLine_138 rfl rfl ?_
                          refine V_getR fa_Reader_12 sk_88 rfl d_Reader_readLine_139 ?_
                          refine N_callVV [] [] cv_Reader_48 sk_89 rfl d_Reader_readLine_142 rfl (Nat.le_of_ble_eq_true rfl) (by decide) (by decide) (c_Tape_advanceX h50 b hI52 s sZ sE (kn_call fh50 (kn_call fh31 (kn_call fh5 sK rfl) rfl) rfl) o56 ((x_en b ((x_en b uZ)))) o56E o56K (TP_fr f53 (fun _ => rfl) hy0) (by omega)) (fun h69 p70 => ?_)
                          obtain ⟨hI71, fh69, o73, o73Z, o73E, o73K, o74, o74Z, o74E, o74K, o75, o75Z, o75E, o75K, o76, o76Z, o76E, o76K, p70⟩ := p70
                          have f72 : fr S_Reader_readLineX h h69 := fr_call f53 fh69 rfl
                          have R77 : RC h69 T D := RC_fr fh69 rfl R61
                          have g78 : 0 ≤ o74Z ∧ o74Z ≤ 160 := inv_at hI71 o74E o74K.symm rfl
                          have g79 : 0 ≤ o75Z ∧ o75Z ≤ 160 := inv_at hI71 o75E o75K.symm rfl
                          refine V_aload_n 0 d_Reader_readLine_145 rfl rfl ?_
                          refine V_iconst 3 d_Reader_readLine_146 (by decide) ?_
                          refine N_callVI [.int 3] [] cv_Reader_84 sk_88 rfl d_Reader_readLine_147 rfl (Nat.le_of_ble_eq_true rfl) (by decide) (by decide) (c_Reader_isKindX h69 hI71 3 3 tc_3 o73 o73Z o73E o73K o74 o74Z o74E o74K o59 o59Z o59E (kn_call fh69 o59K rfl) o58 o58Z o58E (kn_call fh69 o58K rfl)) (fun z80 h81 z80Z z80E p82 => ?_)
                          obtain ⟨hI83, fh81, o85, o85Z, o85E, o85K, o86, o86Z, o86E, o86K, p82⟩ := p82
                          have f84 : fr S_Reader_readLineX h h81 := fr_call f72 fh81 rfl
                          have R87 : RC h81 T D := RC_fr fh81 rfl R77
                          refine V_if_ne 155 z80E d_Reader_readLine_150 (by decide) (fun c88 => ?_) (fun c88 => ?_)
                          ·
                            replace p82 := (p82.resolve_left (fun q => by omega)).resolve_right (fun q => by omega)
                            have hS : x_cS b (x_en b ((x_en b uZ))) = 0 := by have := x_cS_s b (x_en b ((x_en b uZ))); omega
                            have g89 := x_cN_s b uZ 2 4
                            have g93 := x_cN_s b (x_en b uZ) 2 4
                            have g97 := x_cS_s b (x_en b (x_en b uZ))
                            refine V_aload_n 0 d_Reader_readLine_155 rfl rfl ?_
                            refine V_iload_n 1 d_Reader_readLine_156 rfl rfl ?_
                            obtain ⟨z107, z107Z, z107E, z107e⟩ : ∃ (y : Int32) (Y : Int), y.toInt = Y ∧ y = h81.1 75 4 := ⟨_, _, rfl, rfl⟩
                            have g108 : 0 ≤ z107Z ∧ z107Z ≤ 8 := inv_at hI83 z107E z107e rfl
                            refine N_callVV [.int 0] [] cv_Reader_112 sk_88 rfl d_Reader_readLine_157 rfl (Nat.le_of_ble_eq_true rfl) (by decide) (by decide) (c_Reader_tellLineX_0 h81 T D hI83 o41 ((x_vl b uZ)) o41E (kn_call fh81 (kn_call fh69 (kn_call fh50 o41K rfl) rfl) rfl) o60 ((x_vl b ((x_en b uZ)))) o60E (kn_call fh81 (kn_call fh69 o60K rfl) rfl) z23 z23Z z23E (kn_call fh81 (kn_call fh69 (kn_call fh50 (kn_call fh31 z23e.symm rfl) rfl) rfl) rfl) z107 z107Z z107E z107e.symm R87 (by omega) (by omega)) (fun h110 p111 => ?_)
                            obtain ⟨hI112, fh110, p111⟩ := p111
                            have f113 : fr S_Reader_readLineX h h110 := fr_call f84 fh110 rfl
                            have qR := p111
                            refine V_iconst 1 d_Reader_readLine_160 (by decide) ?_
                            exact V_zret rfl (by decide) d_Reader_readLine_161 ⟨1, rfl, ⟨hI112, f113, o75, o75Z, o75E, (kn_call fh110 (kn_call fh81 o75K rfl) rfl), o85, o85Z, o85E, (kn_call fh110 o85K rfl), o86, o86Z, o86E, (kn_call fh110 o86K rfl), (Or.inl ⟨rfl, ((x_line_0 (u := uZ) (by omega) hH hL).trans (by unfold x_l0; rw [x_sq_n (c := x_cN b uZ 2 4) (by omega), x_sq_n (c := x_cN b (x_en b uZ) 2 4) (by omega), x_sq_n (c := x_cS b (x_en b (x_en b uZ))) (by omega)])).trans (pq rfl (by omega)), by omega, by omega, by omega, by rw [x_T_0 T (u := uZ) (by omega) hL, x_D_0 D (u := uZ) (by omega) hL]; exact qR⟩)⟩⟩
                          ·
                            refine V_iconst 0 d_Reader_readLine_153 (by decide) ?_
                            exact V_zret rfl (by decide) d_Reader_readLine_154 ⟨0, rfl, ⟨hI83, f84, o75, o75Z, o75E, (kn_call fh81 o75K rfl), o85, o85Z, o85E, o85K, o86, o86Z, o86E, o86K, (by have q := x_cS_s b (x_en b (x_en b uZ)); exact Or.inr ⟨tc_0, ((x_line_0 (u := uZ) (by omega) hH hL).trans (by unfold x_l0; rw [x_sq_n (c := x_cN b uZ 2 4) (by omega), x_sq_n (c := x_cN b (x_en b uZ) 2 4) (by omega), x_sq_y (c := x_cS b (x_en b (x_en b uZ))) (by omega)])).trans (pq (by omega) (by omega)), by omega⟩)⟩⟩
                        ·
                          exact absurd c67 (by decide)
                      ·
                        refine V_iconst 0 d_Reader_readLine_130 (by decide) ?_
                        exact V_zret rfl (by decide) d_Reader_readLine_131 ⟨0, rfl, ⟨hI52, f53, o56, o56Z, o56E, o56K, o58, o58Z, o58E, o58K, o59, o59Z, o59E, o59K, (by exact Or.inr ⟨tc_0, ((x_line_0 (u := uZ) (by omega) hH hL).trans (by unfold x_l0; rw [x_sq_n (c := x_cN b uZ 2 4) (by omega), x_sq_y (c := x_cN b (x_en b uZ) 2 4) (by omega)])).trans (pq (by omega) (by omega)), by omega⟩)⟩⟩
                  ·
                    refine V_iconst 0 d_Reader_readLine_130 (by decide) ?_
                    exact V_zret rfl (by decide) d_Reader_readLine_131 ⟨0, rfl, ⟨hI33, f34, o37, o37Z, o37E, o37K, o39, o39Z, o39E, o39K, o40, o40Z, o40E, o40K, (by exact Or.inr ⟨tc_0, ((x_line_0 (u := uZ) (by omega) hH hL).trans (by unfold x_l0; rw [x_sq_y (c := x_cN b uZ 2 4) (by omega)])).trans (pq (by omega) (by omega)), by omega⟩)⟩⟩
              ·
                exact absurd c27 (by decide)
            ·
              exact absurd c26 (by decide)
          ·
            refine V_aload_n 0 d_Reader_readLine_48 rfl rfl ?_
            refine V_iconst 4 d_Reader_readLine_49 (by decide) ?_
            refine V_aload_n 0 d_Reader_readLine_50 rfl rfl ?_
            refine V_getR fa_Reader_12 sk_88 rfl d_Reader_readLine_51 ?_
            refine N_getK fa_Reader_81 sk_89 rfl d_Reader_readLine_54 (kn_call fh5 fK rfl) ?_
            refine N_callVI [.int 4, .int f] [] cv_Reader_64 sk_88 rfl d_Reader_readLine_57 rfl (Nat.le_of_ble_eq_true rfl) (by decide) (by decide) (c_Reader_isRefusedX h5 hI7 4 4 tc_4 f fZ fE) (fun z114 h115 z114Z z114E p116 => ?_)
            obtain ⟨hI117, fh115, o119, o119Z, o119E, o119K, o120, o120Z, o120E, o120K, p116⟩ := p116
            have f118 : fr S_Reader_readLineX h h115 := fr_call f8 fh115 rfl
            have R121 : RC h115 T D := RC_fr fh115 rfl R11
            exact V_zret rfl (by rw [z114E]; omega) d_Reader_readLine_60 ⟨z114, rfl, ⟨hI117, f118, u, uZ, uE, (kn_call fh115 (kn_call fh5 uK rfl) rfl), o119, o119Z, o119E, o119K, o120, o120Z, o120E, o120K, (by have q := x_cH_s b T (D 86) p0; exact Or.inr ⟨by omega, (x_line_H (by omega)).trans (pq (by omega) (by omega)), by omega⟩)⟩⟩
      ·
        obtain rfl : z13 = 1 := (ti_eq z13E tc_1).mpr c18
        subst c18
        have hL : x_li b p0 = 1 := by omega
        refine V_iload_n 1 d_Reader_readLine_32 rfl rfl ?_
        refine N_callSI [.int 1] [] cs_Reader_91 d_Reader_readLine_33 rfl (Nat.le_of_ble_eq_true rfl) (by decide) (by decide) (c_Reader_isOnceOnlyX_1 h5) (fun z122 h123 z122Z z122E p124 => ?_)
        obtain ⟨eh123, p124⟩ := p124
        subst eh123
        refine V_if_eq 61 z122E d_Reader_readLine_36 (by decide) (fun c125 => ?_) (fun c125 => ?_)
        ·
          refine V_iload_n 1 d_Reader_readLine_61 rfl rfl ?_
          refine V_bipush 9 d_Reader_readLine_62 (by decide) ?_
          refine V_icmp_ne 95 tc_1 tc_9 d_Reader_readLine_64 (by decide) (fun c126 => ?_) (fun c126 => ?_)
          ·
            have hH : x_cH b T (D 86) p0 = 0 := by have q := x_cH_s b T (D 86) p0; omega
            refine V_iload_n 1 d_Reader_readLine_95 rfl rfl ?_
            refine V_bipush 8 d_Reader_readLine_96 (by decide) ?_
            refine V_icmp_ne 110 tc_1 tc_8 d_Reader_readLine_98 (by decide) (fun c127 => ?_) (fun c127 => ?_)
            ·
              refine V_iconst 0 d_Reader_readLine_110 (by decide) ?_
              refine V_istore_n 2 [some (.ref 88), some (.int 1), some (.int 0)] d_Reader_readLine_111 rfl (by decide) rfl rfl ?_
              refine V_iload_n 2 d_Reader_readLine_112 rfl rfl ?_
              refine V_gets (v := .ref 132) zN ws_Reader_106 d_Reader_readLine_113 ?_
              refine V_iload_n 1 d_Reader_readLine_116 rfl rfl ?_
              refine V_tald roN tc_1 (by decide) d_Reader_readLine_117 (fun z128 z128Z z128E z128e => ?_)
              obtain rfl : z128 = 2 := z128e.trans rfl
              refine V_icmp_ge 138 tc_0 tc_2 d_Reader_readLine_118 (by decide) (fun c129 => ?_) (fun c129 => ?_)
              ·
                exact absurd c129 (by decide)
              ·
                refine V_aload_n 0 d_Reader_readLine_121 rfl rfl ?_
                refine V_iload_n 1 d_Reader_readLine_122 rfl rfl ?_
                refine V_iload_n 2 d_Reader_readLine_123 rfl rfl ?_
                obtain ⟨z130, z130Z, z130E, z130e⟩ : ∃ (y : Int32) (Y : Int), y.toInt = Y ∧ y = h5.1 92 1 := ⟨_, _, rfl, rfl⟩
                refine N_callVI [.int 1, .int 0] [] cv_Reader_109 sk_88 rfl d_Reader_readLine_124 rfl (Nat.le_of_ble_eq_true rfl) (by decide) (by decide) (c_Reader_readNumberX_1_0 h5 b T hI7 s sZ sE (kn_call fh5 sK rfl) u uZ uE (kn_call fh5 uK rfl) o10 o10Z o10E o10K o9 o9Z o9E o9K z130 z130Z z130E z130e.symm (TP_fr f8 (fun _ => rfl) hy0) (by omega) (TB_kn z130e.symm (R11.1.1 1 (by decide) (by decide)))) (fun z131 h132 z131Z z131E p133 => ?_)
                obtain ⟨hI134, fh132, o136, o136Z, o136E, o136K, o137, o137Z, o137E, o137K, o138, o138Z, o138E, o138K, o139, o139Z, o139E, o139K, o140, o140Z, o140E, o140K, o141, o141Z, o141E, o141K, o142, o142Z, o142E, o142K, p133⟩ := p133
                have f135 : fr S_Reader_readLineX h h132 := fr_call f8 fh132 rfl
                have R143 : RC h132 T D := RC_fr fh132 rfl R11
                have g144 : 0 ≤ o137Z ∧ o137Z ≤ 160 := inv_at hI134 o137E o137K.symm rfl
                have g145 : 0 ≤ o138Z ∧ o138Z ≤ 160 := inv_at hI134 o138E o138K.symm rfl
                refine V_if_ne 132 z131E d_Reader_readLine_127 (by decide) (fun c146 => ?_) (fun c146 => ?_)
                ·
                  replace p133 := p133.resolve_right (fun q => by omega)
                  obtain rfl : o138Z = x_en b uZ := by omega
                  obtain rfl : o142Z = x_vl b uZ := by omega
                  refine V_iinc (v := 1) 2 [some (.ref 88), some (.int 1), some (.int 1)] d_Reader_readLine_132 rfl (by decide) (by decide) rfl rfl ?_
                  refine V_goto 112 d_Reader_readLine_135 (by decide) ?_
                  refine V_iload_n 2 d_Reader_readLine_112 rfl rfl ?_
                  refine V_gets (v := .ref 132) zN ws_Reader_106 d_Reader_readLine_113 ?_
                  refine V_iload_n 1 d_Reader_readLine_116 rfl rfl ?_
                  refine V_tald roN tc_1 (by decide) d_Reader_readLine_117 (fun z148 z148Z z148E z148e => ?_)
                  obtain rfl : z148 = 2 := z148e.trans rfl
                  refine V_icmp_ge 138 tc_1 tc_2 d_Reader_readLine_118 (by decide) (fun c149 => ?_) (fun c149 => ?_)
                  ·
                    exact absurd c149 (by decide)
                  ·
                    refine V_aload_n 0 d_Reader_readLine_121 rfl rfl ?_
                    refine V_iload_n 1 d_Reader_readLine_122 rfl rfl ?_
                    refine V_iload_n 2 d_Reader_readLine_123 rfl rfl ?_
                    refine N_callVI [.int 1, .int 1] [] cv_Reader_109 sk_88 rfl d_Reader_readLine_124 rfl (Nat.le_of_ble_eq_true rfl) (by decide) (by decide) (c_Reader_readNumberX_1_1 h132 b T hI134 s sZ sE (kn_call fh132 (kn_call fh5 sK rfl) rfl) o138 ((x_en b uZ)) o138E o138K o141 o141Z o141E o141K o140 o140Z o140E o140K (TP_fr f135 (fun _ => rfl) hy0) (by omega)) (fun z150 h151 z150Z z150E p152 => ?_)
                    obtain ⟨hI153, fh151, o155, o155Z, o155E, o155K, o156, o156Z, o156E, o156K, o157, o157Z, o157E, o157K, o158, o158Z, o158E, o158K, o159, o159Z, o159E, o159K, o160, o160Z, o160E, o160K, o161, o161Z, o161E, o161K, p152⟩ := p152
                    have f154 : fr S_Reader_readLineX h h151 := fr_call f135 fh151 rfl
                    have R162 : RC h151 T D := RC_fr fh151 rfl R143
                    have g163 : 0 ≤ o156Z ∧ o156Z ≤ 160 := inv_at hI153 o156E o156K.symm rfl
                    have g164 : 0 ≤ o157Z ∧ o157Z ≤ 160 := inv_at hI153 o157E o157K.symm rfl
                    refine V_if_ne 132 z150E d_Reader_readLine_127 (by decide) (fun c165 => ?_) (fun c165 => ?_)
                    ·
                      replace p152 := p152.resolve_right (fun q => by omega)
                      obtain rfl : o157Z = x_en b ((x_en b uZ)) := by omega
                      obtain rfl : o161Z = x_vl b ((x_en b uZ)) := by omega
                      refine V_iinc (v := 2) 2 [some (.ref 88), some (.int 1), some (.int 2)] d_Reader_readLine_132 rfl (by decide) (by decide) rfl rfl ?_
                      refine V_goto 112 d_Reader_readLine_135 (by decide) ?_
                      refine V_iload_n 2 d_Reader_readLine_112 rfl rfl ?_
                      refine V_gets (v := .ref 132) zN ws_Reader_106 d_Reader_readLine_113 ?_
                      refine V_iload_n 1 d_Reader_readLine_116 rfl rfl ?_
                      refine V_tald roN tc_1 (by decide) d_Reader_readLine_117 (fun z167 z167Z z167E z167e => ?_)
                      obtain rfl : z167 = 2 := z167e.trans rfl
                      refine V_icmp_ge 138 tc_2 tc_2 d_Reader_readLine_118 (by decide) (fun c168 => ?_) (fun c168 => ?_)
                      ·
                        refine V_aload_n 0 d_Reader_readLine_138 rfl rfl ?_
                        refine V_getR fa_Reader_12 sk_88 rfl d_Reader_readLine_139 ?_
                        refine N_callVV [] [] cv_Reader_48 sk_89 rfl d_Reader_readLine_142 rfl (Nat.le_of_ble_eq_true rfl) (by decide) (by decide) (c_Tape_advanceX h151 b hI153 s sZ sE (kn_call fh151 (kn_call fh132 (kn_call fh5 sK rfl) rfl) rfl) o157 ((x_en b ((x_en b uZ)))) o157E o157K (TP_fr f154 (fun _ => rfl) hy0) (by omega)) (fun h170 p171 => ?_)
                        obtain ⟨hI172, fh170, o174, o174Z, o174E, o174K, o175, o175Z, o175E, o175K, o176, o176Z, o176E, o176K, o177, o177Z, o177E, o177K, p171⟩ := p171
                        have f173 : fr S_Reader_readLineX h h170 := fr_call f154 fh170 rfl
                        have R178 : RC h170 T D := RC_fr fh170 rfl R162
                        have g179 : 0 ≤ o175Z ∧ o175Z ≤ 160 := inv_at hI172 o175E o175K.symm rfl
                        have g180 : 0 ≤ o176Z ∧ o176Z ≤ 160 := inv_at hI172 o176E o176K.symm rfl
                        refine V_aload_n 0 d_Reader_readLine_145 rfl rfl ?_
                        refine V_iconst 3 d_Reader_readLine_146 (by decide) ?_
                        refine N_callVI [.int 3] [] cv_Reader_84 sk_88 rfl d_Reader_readLine_147 rfl (Nat.le_of_ble_eq_true rfl) (by decide) (by decide) (c_Reader_isKindX h170 hI172 3 3 tc_3 o174 o174Z o174E o174K o175 o175Z o175E o175K o160 o160Z o160E (kn_call fh170 o160K rfl) o159 o159Z o159E (kn_call fh170 o159K rfl)) (fun z181 h182 z181Z z181E p183 => ?_)
                        obtain ⟨hI184, fh182, o186, o186Z, o186E, o186K, o187, o187Z, o187E, o187K, p183⟩ := p183
                        have f185 : fr S_Reader_readLineX h h182 := fr_call f173 fh182 rfl
                        have R188 : RC h182 T D := RC_fr fh182 rfl R178
                        refine V_if_ne 155 z181E d_Reader_readLine_150 (by decide) (fun c189 => ?_) (fun c189 => ?_)
                        ·
                          replace p183 := (p183.resolve_left (fun q => by omega)).resolve_right (fun q => by omega)
                          have hS : x_cS b (x_en b ((x_en b uZ))) = 0 := by have := x_cS_s b (x_en b ((x_en b uZ))); omega
                          have g190 := x_cN_s b uZ 0 15
                          have g194 := x_cN_s b (x_en b uZ) 1 9
                          have g198 := x_cS_s b (x_en b (x_en b uZ))
                          refine V_aload_n 0 d_Reader_readLine_155 rfl rfl ?_
                          refine V_iload_n 1 d_Reader_readLine_156 rfl rfl ?_
                          obtain ⟨z208, z208Z, z208E, z208e⟩ : ∃ (y : Int32) (Y : Int), y.toInt = Y ∧ y = h182.1 75 4 := ⟨_, _, rfl, rfl⟩
                          have g209 : 0 ≤ z208Z ∧ z208Z ≤ 8 := inv_at hI184 z208E z208e rfl
                          refine N_callVV [.int 1] [] cv_Reader_112 sk_88 rfl d_Reader_readLine_157 rfl (Nat.le_of_ble_eq_true rfl) (by decide) (by decide) (c_Reader_tellLineX_1 h182 T D hI184 o142 ((x_vl b uZ)) o142E (kn_call fh182 (kn_call fh170 (kn_call fh151 o142K rfl) rfl) rfl) o161 ((x_vl b ((x_en b uZ)))) o161E (kn_call fh182 (kn_call fh170 o161K rfl) rfl) z130 z130Z z130E (kn_call fh182 (kn_call fh170 (kn_call fh151 (kn_call fh132 z130e.symm rfl) rfl) rfl) rfl) z208 z208Z z208E z208e.symm R188 (by omega) (by omega)) (fun h211 p212 => ?_)
                          obtain ⟨hI213, fh211, p212⟩ := p212
                          have f214 : fr S_Reader_readLineX h h211 := fr_call f185 fh211 rfl
                          have qR := p212
                          refine V_iconst 1 d_Reader_readLine_160 (by decide) ?_
                          exact V_zret rfl (by decide) d_Reader_readLine_161 ⟨1, rfl, ⟨hI213, f214, o176, o176Z, o176E, (kn_call fh211 (kn_call fh182 o176K rfl) rfl), o186, o186Z, o186E, (kn_call fh211 o186K rfl), o187, o187Z, o187E, (kn_call fh211 o187K rfl), (Or.inl ⟨rfl, ((x_line_1 (u := uZ) (by omega) hH hL).trans (by unfold x_l1; rw [x_sq_n (c := x_cN b uZ 0 15) (by omega), x_sq_n (c := x_c4 (T 1 (x_vl b uZ))) (by omega), x_sq_n (c := x_cN b (x_en b uZ) 1 9) (by omega), x_sq_n (c := x_cS b (x_en b (x_en b uZ))) (by omega)])).trans (pq rfl (by omega)), by omega, by omega, by omega, by rw [x_T_1 T (u := uZ) (by omega) hL, x_D_1 D (u := uZ) (by omega) hL]; exact qR⟩)⟩⟩
                        ·
                          refine V_iconst 0 d_Reader_readLine_153 (by decide) ?_
                          exact V_zret rfl (by decide) d_Reader_readLine_154 ⟨0, rfl, ⟨hI184, f185, o176, o176Z, o176E, (kn_call fh182 o176K rfl), o186, o186Z, o186E, o186K, o187, o187Z, o187E, o187K, (by have q := x_cS_s b (x_en b (x_en b uZ)); exact Or.inr ⟨tc_0, ((x_line_1 (u := uZ) (by omega) hH hL).trans (by unfold x_l1; rw [x_sq_n (c := x_cN b uZ 0 15) (by omega), x_sq_n (c := x_c4 (T 1 (x_vl b uZ))) (by omega), x_sq_n (c := x_cN b (x_en b uZ) 1 9) (by omega), x_sq_y (c := x_cS b (x_en b (x_en b uZ))) (by omega)])).trans (pq (by omega) (by omega)), by omega⟩)⟩⟩
                      ·
                        exact absurd c168 (by decide)
                    ·
                      refine V_iconst 0 d_Reader_readLine_130 (by decide) ?_
                      exact V_zret rfl (by decide) d_Reader_readLine_131 ⟨0, rfl, ⟨hI153, f154, o157, o157Z, o157E, o157K, o159, o159Z, o159E, o159K, o160, o160Z, o160E, o160K, (by exact Or.inr ⟨tc_0, ((x_line_1 (u := uZ) (by omega) hH hL).trans (by unfold x_l1; rw [x_sq_n (c := x_cN b uZ 0 15) (by omega), x_sq_n (c := x_c4 (T 1 (x_vl b uZ))) (by omega), x_sq_y (c := x_cN b (x_en b uZ) 1 9) (by omega)])).trans (pq (by omega) (by omega)), by omega⟩)⟩⟩
                ·
                  refine V_iconst 0 d_Reader_readLine_130 (by decide) ?_
                  exact V_zret rfl (by decide) d_Reader_readLine_131 ⟨0, rfl, ⟨hI134, f135, o138, o138Z, o138E, o138K, o140, o140Z, o140E, o140K, o141, o141Z, o141E, o141K, (if q9 : x_cN b uZ 0 15 = 0 then Or.inr ⟨tc_0, ((x_line_1 (u := uZ) (by omega) hH hL).trans (by unfold x_l1; rw [x_sq_n (c := x_cN b uZ 0 15) (by omega), x_sq_y (c := x_c4 (T 1 (x_vl b uZ))) (by omega)])).trans (pq (by omega) (by omega)), by omega⟩ else Or.inr ⟨tc_0, ((x_line_1 (u := uZ) (by omega) hH hL).trans (by unfold x_l1; rw [x_sq_y (c := x_cN b uZ 0 15) (by omega)])).trans (pq (by omega) (by omega)), by omega⟩)⟩⟩
            ·
              exact absurd c127 (by decide)
          ·
            exact absurd c126 (by decide)
        ·
          exact absurd c125 (by omega)
      ·
        obtain rfl : z13 = 2 := (ti_eq z13E tc_2).mpr c18
        subst c18
        have hL : x_li b p0 = 2 := by omega
        refine V_iload_n 1 d_Reader_readLine_32 rfl rfl ?_
        refine N_callSI [.int 2] [] cs_Reader_91 d_Reader_readLine_33 rfl (Nat.le_of_ble_eq_true rfl) (by decide) (by decide) (c_Reader_isOnceOnlyX_2 h5) (fun z215 h216 z215Z z215E p217 => ?_)
        obtain ⟨eh216, p217⟩ := p217
        subst eh216
        refine V_if_eq 61 z215E d_Reader_readLine_36 (by decide) (fun c218 => ?_) (fun c218 => ?_)
        ·
          refine V_iload_n 1 d_Reader_readLine_61 rfl rfl ?_
          refine V_bipush 9 d_Reader_readLine_62 (by decide) ?_
          refine V_icmp_ne 95 tc_2 tc_9 d_Reader_readLine_64 (by decide) (fun c219 => ?_) (fun c219 => ?_)
          ·
            have hH : x_cH b T (D 86) p0 = 0 := by have q := x_cH_s b T (D 86) p0; omega
            refine V_iload_n 1 d_Reader_readLine_95 rfl rfl ?_
            refine V_bipush 8 d_Reader_readLine_96 (by decide) ?_
            refine V_icmp_ne 110 tc_2 tc_8 d_Reader_readLine_98 (by decide) (fun c220 => ?_) (fun c220 => ?_)
            ·
              refine V_iconst 0 d_Reader_readLine_110 (by decide) ?_
              refine V_istore_n 2 [some (.ref 88), some (.int 2), some (.int 0)] d_Reader_readLine_111 rfl (by decide) rfl rfl ?_
              refine V_iload_n 2 d_Reader_readLine_112 rfl rfl ?_
              refine V_gets (v := .ref 132) zN ws_Reader_106 d_Reader_readLine_113 ?_
              refine V_iload_n 1 d_Reader_readLine_116 rfl rfl ?_
              refine V_tald roN tc_2 (by decide) d_Reader_readLine_117 (fun z221 z221Z z221E z221e => ?_)
              obtain rfl : z221 = 1 := z221e.trans rfl
              refine V_icmp_ge 138 tc_0 tc_1 d_Reader_readLine_118 (by decide) (fun c222 => ?_) (fun c222 => ?_)
              ·
                exact absurd c222 (by decide)
              ·
                refine V_aload_n 0 d_Reader_readLine_121 rfl rfl ?_
                refine V_iload_n 1 d_Reader_readLine_122 rfl rfl ?_
                refine V_iload_n 2 d_Reader_readLine_123 rfl rfl ?_
                obtain ⟨z223, z223Z, z223E, z223e⟩ : ∃ (y : Int32) (Y : Int), y.toInt = Y ∧ y = h5.1 92 2 := ⟨_, _, rfl, rfl⟩
                refine N_callVI [.int 2, .int 0] [] cv_Reader_109 sk_88 rfl d_Reader_readLine_124 rfl (Nat.le_of_ble_eq_true rfl) (by decide) (by decide) (c_Reader_readNumberX_2_0 h5 b T hI7 s sZ sE (kn_call fh5 sK rfl) u uZ uE (kn_call fh5 uK rfl) o10 o10Z o10E o10K o9 o9Z o9E o9K z223 z223Z z223E z223e.symm (TP_fr f8 (fun _ => rfl) hy0) (by omega) (TB_kn z223e.symm (R11.1.1 2 (by decide) (by decide)))) (fun z224 h225 z224Z z224E p226 => ?_)
                obtain ⟨hI227, fh225, o229, o229Z, o229E, o229K, o230, o230Z, o230E, o230K, o231, o231Z, o231E, o231K, o232, o232Z, o232E, o232K, o233, o233Z, o233E, o233K, o234, o234Z, o234E, o234K, o235, o235Z, o235E, o235K, p226⟩ := p226
                have f228 : fr S_Reader_readLineX h h225 := fr_call f8 fh225 rfl
                have R236 : RC h225 T D := RC_fr fh225 rfl R11
                have g237 : 0 ≤ o230Z ∧ o230Z ≤ 160 := inv_at hI227 o230E o230K.symm rfl
                have g238 : 0 ≤ o231Z ∧ o231Z ≤ 160 := inv_at hI227 o231E o231K.symm rfl
                refine V_if_ne 132 z224E d_Reader_readLine_127 (by decide) (fun c239 => ?_) (fun c239 => ?_)
                ·
                  replace p226 := p226.resolve_right (fun q => by omega)
                  obtain rfl : o231Z = x_en b uZ := by omega
                  obtain rfl : o235Z = x_vl b uZ := by omega
                  refine V_iinc (v := 1) 2 [some (.ref 88), some (.int 2), some (.int 1)] d_Reader_readLine_132 rfl (by decide) (by decide) rfl rfl ?_
                  refine V_goto 112 d_Reader_readLine_135 (by decide) ?_
                  refine V_iload_n 2 d_Reader_readLine_112 rfl rfl ?_
                  refine V_gets (v := .ref 132) zN ws_Reader_106 d_Reader_readLine_113 ?_
                  refine V_iload_n 1 d_Reader_readLine_116 rfl rfl ?_
                  refine V_tald roN tc_2 (by decide) d_Reader_readLine_117 (fun z241 z241Z z241E z241e => ?_)
                  obtain rfl : z241 = 1 := z241e.trans rfl
                  refine V_icmp_ge 138 tc_1 tc_1 d_Reader_readLine_118 (by decide) (fun c242 => ?_) (fun c242 => ?_)
                  ·
                    refine V_aload_n 0 d_Reader_readLine_138 rfl rfl ?_
                    refine V_getR fa_Reader_12 sk_88 rfl d_Reader_readLine_139 ?_
                    refine N_callVV [] [] cv_Reader_48 sk_89 rfl d_Reader_readLine_142 rfl (Nat.le_of_ble_eq_true rfl) (by decide) (by decide) (c_Tape_advanceX h225 b hI227 s sZ sE (kn_call fh225 (kn_call fh5 sK rfl) rfl) o231 ((x_en b uZ)) o231E o231K (TP_fr f228 (fun _ => rfl) hy0) (by omega)) (fun h244 p245 => ?_)
                    obtain ⟨hI246, fh244, o248, o248Z, o248E, o248K, o249, o249Z, o249E, o249K, o250, o250Z, o250E, o250K, o251, o251Z, o251E, o251K, p245⟩ := p245
                    have f247 : fr S_Reader_readLineX h h244 := fr_call f228 fh244 rfl
                    have R252 : RC h244 T D := RC_fr fh244 rfl R236
                    have g253 : 0 ≤ o249Z ∧ o249Z ≤ 160 := inv_at hI246 o249E o249K.symm rfl
                    have g254 : 0 ≤ o250Z ∧ o250Z ≤ 160 := inv_at hI246 o250E o250K.symm rfl
                    refine V_aload_n 0 d_Reader_readLine_145 rfl rfl ?_
                    refine V_iconst 3 d_Reader_readLine_146 (by decide) ?_
                    refine N_callVI [.int 3] [] cv_Reader_84 sk_88 rfl d_Reader_readLine_147 rfl (Nat.le_of_ble_eq_true rfl) (by decide) (by decide) (c_Reader_isKindX h244 hI246 3 3 tc_3 o248 o248Z o248E o248K o249 o249Z o249E o249K o234 o234Z o234E (kn_call fh244 o234K rfl) o233 o233Z o233E (kn_call fh244 o233K rfl)) (fun z255 h256 z255Z z255E p257 => ?_)
                    obtain ⟨hI258, fh256, o260, o260Z, o260E, o260K, o261, o261Z, o261E, o261K, p257⟩ := p257
                    have f259 : fr S_Reader_readLineX h h256 := fr_call f247 fh256 rfl
                    have R262 : RC h256 T D := RC_fr fh256 rfl R252
                    refine V_if_ne 155 z255E d_Reader_readLine_150 (by decide) (fun c263 => ?_) (fun c263 => ?_)
                    ·
                      replace p257 := (p257.resolve_left (fun q => by omega)).resolve_right (fun q => by omega)
                      have hS : x_cS b (x_en b uZ) = 0 := by have := x_cS_s b (x_en b uZ); omega
                      have g264 := x_cN_s b uZ 0 15
                      have g267 := x_cS_s b (x_en b uZ)
                      refine V_aload_n 0 d_Reader_readLine_155 rfl rfl ?_
                      refine V_iload_n 1 d_Reader_readLine_156 rfl rfl ?_
                      obtain ⟨z276, z276Z, z276E, z276e⟩ : ∃ (y : Int32) (Y : Int), y.toInt = Y ∧ y = h256.1 75 4 := ⟨_, _, rfl, rfl⟩
                      have g277 : 0 ≤ z276Z ∧ z276Z ≤ 8 := inv_at hI258 z276E z276e rfl
                      refine N_callVV [.int 2] [] cv_Reader_112 sk_88 rfl d_Reader_readLine_157 rfl (Nat.le_of_ble_eq_true rfl) (by decide) (by decide) (c_Reader_tellLineX_2 h256 T D hI258 o235 ((x_vl b uZ)) o235E (kn_call fh256 (kn_call fh244 o235K rfl) rfl) z223 z223Z z223E (kn_call fh256 (kn_call fh244 (kn_call fh225 z223e.symm rfl) rfl) rfl) z276 z276Z z276E z276e.symm R262 (by omega)) (fun h279 p280 => ?_)
                      obtain ⟨hI281, fh279, p280⟩ := p280
                      have f282 : fr S_Reader_readLineX h h279 := fr_call f259 fh279 rfl
                      have qR := p280
                      refine V_iconst 1 d_Reader_readLine_160 (by decide) ?_
                      exact V_zret rfl (by decide) d_Reader_readLine_161 ⟨1, rfl, ⟨hI281, f282, o250, o250Z, o250E, (kn_call fh279 (kn_call fh256 o250K rfl) rfl), o260, o260Z, o260E, (kn_call fh279 o260K rfl), o261, o261Z, o261E, (kn_call fh279 o261K rfl), (Or.inl ⟨rfl, ((x_line_2 (u := uZ) (by omega) hH hL).trans (by unfold x_l2; rw [x_sq_n (c := x_cN b uZ 0 15) (by omega), x_sq_n (c := x_c4 (T 2 (x_vl b uZ))) (by omega), x_sq_n (c := x_cS b (x_en b uZ)) (by omega)])).trans (pq rfl (by omega)), by omega, by omega, by omega, by rw [x_T_2 T (u := uZ) (by omega) hL, x_D_2 D (u := uZ) (by omega) hL]; exact qR⟩)⟩⟩
                    ·
                      refine V_iconst 0 d_Reader_readLine_153 (by decide) ?_
                      exact V_zret rfl (by decide) d_Reader_readLine_154 ⟨0, rfl, ⟨hI258, f259, o250, o250Z, o250E, (kn_call fh256 o250K rfl), o260, o260Z, o260E, o260K, o261, o261Z, o261E, o261K, (by have q := x_cS_s b (x_en b uZ); exact Or.inr ⟨tc_0, ((x_line_2 (u := uZ) (by omega) hH hL).trans (by unfold x_l2; rw [x_sq_n (c := x_cN b uZ 0 15) (by omega), x_sq_n (c := x_c4 (T 2 (x_vl b uZ))) (by omega), x_sq_y (c := x_cS b (x_en b uZ)) (by omega)])).trans (pq (by omega) (by omega)), by omega⟩)⟩⟩
                  ·
                    exact absurd c242 (by decide)
                ·
                  refine V_iconst 0 d_Reader_readLine_130 (by decide) ?_
                  exact V_zret rfl (by decide) d_Reader_readLine_131 ⟨0, rfl, ⟨hI227, f228, o231, o231Z, o231E, o231K, o233, o233Z, o233E, o233K, o234, o234Z, o234E, o234K, (if q9 : x_cN b uZ 0 15 = 0 then Or.inr ⟨tc_0, ((x_line_2 (u := uZ) (by omega) hH hL).trans (by unfold x_l2; rw [x_sq_n (c := x_cN b uZ 0 15) (by omega), x_sq_y (c := x_c4 (T 2 (x_vl b uZ))) (by omega)])).trans (pq (by omega) (by omega)), by omega⟩ else Or.inr ⟨tc_0, ((x_line_2 (u := uZ) (by omega) hH hL).trans (by unfold x_l2; rw [x_sq_y (c := x_cN b uZ 0 15) (by omega)])).trans (pq (by omega) (by omega)), by omega⟩)⟩⟩
            ·
              exact absurd c220 (by decide)
          ·
            exact absurd c219 (by decide)
        ·
          exact absurd c218 (by omega)
      ·
        obtain rfl : z13 = 3 := (ti_eq z13E tc_3).mpr c18
        subst c18
        have hL : x_li b p0 = 3 := by omega
        refine V_iload_n 1 d_Reader_readLine_32 rfl rfl ?_
        refine N_callSI [.int 3] [] cs_Reader_91 d_Reader_readLine_33 rfl (Nat.le_of_ble_eq_true rfl) (by decide) (by decide) (c_Reader_isOnceOnlyX_3 h5) (fun z283 h284 z283Z z283E p285 => ?_)
        obtain ⟨eh284, p285⟩ := p285
        subst eh284
        refine V_if_eq 61 z283E d_Reader_readLine_36 (by decide) (fun c286 => ?_) (fun c286 => ?_)
        ·
          refine V_iload_n 1 d_Reader_readLine_61 rfl rfl ?_
          refine V_bipush 9 d_Reader_readLine_62 (by decide) ?_
          refine V_icmp_ne 95 tc_3 tc_9 d_Reader_readLine_64 (by decide) (fun c287 => ?_) (fun c287 => ?_)
          ·
            have hH : x_cH b T (D 86) p0 = 0 := by have q := x_cH_s b T (D 86) p0; omega
            refine V_iload_n 1 d_Reader_readLine_95 rfl rfl ?_
            refine V_bipush 8 d_Reader_readLine_96 (by decide) ?_
            refine V_icmp_ne 110 tc_3 tc_8 d_Reader_readLine_98 (by decide) (fun c288 => ?_) (fun c288 => ?_)
            ·
              refine V_iconst 0 d_Reader_readLine_110 (by decide) ?_
              refine V_istore_n 2 [some (.ref 88), some (.int 3), some (.int 0)] d_Reader_readLine_111 rfl (by decide) rfl rfl ?_
              refine V_iload_n 2 d_Reader_readLine_112 rfl rfl ?_
              refine V_gets (v := .ref 132) zN ws_Reader_106 d_Reader_readLine_113 ?_
              refine V_iload_n 1 d_Reader_readLine_116 rfl rfl ?_
              refine V_tald roN tc_3 (by decide) d_Reader_readLine_117 (fun z289 z289Z z289E z289e => ?_)
              obtain rfl : z289 = 2 := z289e.trans rfl
              refine V_icmp_ge 138 tc_0 tc_2 d_Reader_readLine_118 (by decide) (fun c290 => ?_) (fun c290 => ?_)
              ·
                exact absurd c290 (by decide)
              ·
                refine V_aload_n 0 d_Reader_readLine_121 rfl rfl ?_
                refine V_iload_n 1 d_Reader_readLine_122 rfl rfl ?_
                refine V_iload_n 2 d_Reader_readLine_123 rfl rfl ?_
                obtain ⟨z291, z291Z, z291E, z291e⟩ : ∃ (y : Int32) (Y : Int), y.toInt = Y ∧ y = h5.1 92 3 := ⟨_, _, rfl, rfl⟩
                refine N_callVI [.int 3, .int 0] [] cv_Reader_109 sk_88 rfl d_Reader_readLine_124 rfl (Nat.le_of_ble_eq_true rfl) (by decide) (by decide) (c_Reader_readNumberX_3_0 h5 b T hI7 s sZ sE (kn_call fh5 sK rfl) u uZ uE (kn_call fh5 uK rfl) o10 o10Z o10E o10K o9 o9Z o9E o9K z291 z291Z z291E z291e.symm (TP_fr f8 (fun _ => rfl) hy0) (by omega) (TB_kn z291e.symm (R11.1.1 3 (by decide) (by decide)))) (fun z292 h293 z292Z z292E p294 => ?_)
                obtain ⟨hI295, fh293, o297, o297Z, o297E, o297K, o298, o298Z, o298E, o298K, o299, o299Z, o299E, o299K, o300, o300Z, o300E, o300K, o301, o301Z, o301E, o301K, o302, o302Z, o302E, o302K, o303, o303Z, o303E, o303K, p294⟩ := p294
                have f296 : fr S_Reader_readLineX h h293 := fr_call f8 fh293 rfl
                have R304 : RC h293 T D := RC_fr fh293 rfl R11
                have g305 : 0 ≤ o298Z ∧ o298Z ≤ 160 := inv_at hI295 o298E o298K.symm rfl
                have g306 : 0 ≤ o299Z ∧ o299Z ≤ 160 := inv_at hI295 o299E o299K.symm rfl
                refine V_if_ne 132 z292E d_Reader_readLine_127 (by decide) (fun c307 => ?_) (fun c307 => ?_)
                ·
                  replace p294 := p294.resolve_right (fun q => by omega)
                  obtain rfl : o299Z = x_en b uZ := by omega
                  obtain rfl : o303Z = x_vl b uZ := by omega
                  refine V_iinc (v := 1) 2 [some (.ref 88), some (.int 3), some (.int 1)] d_Reader_readLine_132 rfl (by decide) (by decide) rfl rfl ?_
                  refine V_goto 112 d_Reader_readLine_135 (by decide) ?_
                  refine V_iload_n 2 d_Reader_readLine_112 rfl rfl ?_
                  refine V_gets (v := .ref 132) zN ws_Reader_106 d_Reader_readLine_113 ?_
                  refine V_iload_n 1 d_Reader_readLine_116 rfl rfl ?_
                  refine V_tald roN tc_3 (by decide) d_Reader_readLine_117 (fun z309 z309Z z309E z309e => ?_)
                  obtain rfl : z309 = 2 := z309e.trans rfl
                  refine V_icmp_ge 138 tc_1 tc_2 d_Reader_readLine_118 (by decide) (fun c310 => ?_) (fun c310 => ?_)
                  ·
                    exact absurd c310 (by decide)
                  ·
                    refine V_aload_n 0 d_Reader_readLine_121 rfl rfl ?_
                    refine V_iload_n 1 d_Reader_readLine_122 rfl rfl ?_
                    refine V_iload_n 2 d_Reader_readLine_123 rfl rfl ?_
                    refine N_callVI [.int 3, .int 1] [] cv_Reader_109 sk_88 rfl d_Reader_readLine_124 rfl (Nat.le_of_ble_eq_true rfl) (by decide) (by decide) (c_Reader_readNumberX_3_1 h293 b T hI295 s sZ sE (kn_call fh293 (kn_call fh5 sK rfl) rfl) o299 ((x_en b uZ)) o299E o299K o302 o302Z o302E o302K o301 o301Z o301E o301K (TP_fr f296 (fun _ => rfl) hy0) (by omega)) (fun z311 h312 z311Z z311E p313 => ?_)
                    obtain ⟨hI314, fh312, o316, o316Z, o316E, o316K, o317, o317Z, o317E, o317K, o318, o318Z, o318E, o318K, o319, o319Z, o319E, o319K, o320, o320Z, o320E, o320K, o321, o321Z, o321E, o321K, o322, o322Z, o322E, o322K, p313⟩ := p313
                    have f315 : fr S_Reader_readLineX h h312 := fr_call f296 fh312 rfl
                    have R323 : RC h312 T D := RC_fr fh312 rfl R304
                    have g324 : 0 ≤ o317Z ∧ o317Z ≤ 160 := inv_at hI314 o317E o317K.symm rfl
                    have g325 : 0 ≤ o318Z ∧ o318Z ≤ 160 := inv_at hI314 o318E o318K.symm rfl
                    refine V_if_ne 132 z311E d_Reader_readLine_127 (by decide) (fun c326 => ?_) (fun c326 => ?_)
                    ·
                      replace p313 := p313.resolve_right (fun q => by omega)
                      obtain rfl : o318Z = x_en b ((x_en b uZ)) := by omega
                      obtain rfl : o322Z = x_vl b ((x_en b uZ)) := by omega
                      refine V_iinc (v := 2) 2 [some (.ref 88), some (.int 3), some (.int 2)] d_Reader_readLine_132 rfl (by decide) (by decide) rfl rfl ?_
                      refine V_goto 112 d_Reader_readLine_135 (by decide) ?_
                      refine V_iload_n 2 d_Reader_readLine_112 rfl rfl ?_
                      refine V_gets (v := .ref 132) zN ws_Reader_106 d_Reader_readLine_113 ?_
                      refine V_iload_n 1 d_Reader_readLine_116 rfl rfl ?_
                      refine V_tald roN tc_3 (by decide) d_Reader_readLine_117 (fun z328 z328Z z328E z328e => ?_)
                      obtain rfl : z328 = 2 := z328e.trans rfl
                      refine V_icmp_ge 138 tc_2 tc_2 d_Reader_readLine_118 (by decide) (fun c329 => ?_) (fun c329 => ?_)
                      ·
                        refine V_aload_n 0 d_Reader_readLine_138 rfl rfl ?_
                        refine V_getR fa_Reader_12 sk_88 rfl d_Reader_readLine_139 ?_
                        refine N_callVV [] [] cv_Reader_48 sk_89 rfl d_Reader_readLine_142 rfl (Nat.le_of_ble_eq_true rfl) (by decide) (by decide) (c_Tape_advanceX h312 b hI314 s sZ sE (kn_call fh312 (kn_call fh293 (kn_call fh5 sK rfl) rfl) rfl) o318 ((x_en b ((x_en b uZ)))) o318E o318K (TP_fr f315 (fun _ => rfl) hy0) (by omega)) (fun h331 p332 => ?_)
                        obtain ⟨hI333, fh331, o335, o335Z, o335E, o335K, o336, o336Z, o336E, o336K, o337, o337Z, o337E, o337K, o338, o338Z, o338E, o338K, p332⟩ := p332
                        have f334 : fr S_Reader_readLineX h h331 := fr_call f315 fh331 rfl
                        have R339 : RC h331 T D := RC_fr fh331 rfl R323
                        have g340 : 0 ≤ o336Z ∧ o336Z ≤ 160 := inv_at hI333 o336E o336K.symm rfl
                        have g341 : 0 ≤ o337Z ∧ o337Z ≤ 160 := inv_at hI333 o337E o337K.symm rfl
                        refine V_aload_n 0 d_Reader_readLine_145 rfl rfl ?_
                        refine V_iconst 3 d_Reader_readLine_146 (by decide) ?_
                        refine N_callVI [.int 3] [] cv_Reader_84 sk_88 rfl d_Reader_readLine_147 rfl (Nat.le_of_ble_eq_true rfl) (by decide) (by decide) (c_Reader_isKindX h331 hI333 3 3 tc_3 o335 o335Z o335E o335K o336 o336Z o336E o336K o321 o321Z o321E (kn_call fh331 o321K rfl) o320 o320Z o320E (kn_call fh331 o320K rfl)) (fun z342 h343 z342Z z342E p344 => ?_)
                        obtain ⟨hI345, fh343, o347, o347Z, o347E, o347K, o348, o348Z, o348E, o348K, p344⟩ := p344
                        have f346 : fr S_Reader_readLineX h h343 := fr_call f334 fh343 rfl
                        have R349 : RC h343 T D := RC_fr fh343 rfl R339
                        refine V_if_ne 155 z342E d_Reader_readLine_150 (by decide) (fun c350 => ?_) (fun c350 => ?_)
                        ·
                          replace p344 := (p344.resolve_left (fun q => by omega)).resolve_right (fun q => by omega)
                          have hS : x_cS b (x_en b ((x_en b uZ))) = 0 := by have := x_cS_s b (x_en b ((x_en b uZ))); omega
                          have g351 := x_cN_s b uZ 0 15
                          have g355 := x_cN_s b (x_en b uZ) 0 10
                          have g359 := x_cS_s b (x_en b (x_en b uZ))
                          refine V_aload_n 0 d_Reader_readLine_155 rfl rfl ?_
                          refine V_iload_n 1 d_Reader_readLine_156 rfl rfl ?_
                          obtain ⟨z369, z369Z, z369E, z369e⟩ : ∃ (y : Int32) (Y : Int), y.toInt = Y ∧ y = h343.1 75 4 := ⟨_, _, rfl, rfl⟩
                          have g370 : 0 ≤ z369Z ∧ z369Z ≤ 8 := inv_at hI345 z369E z369e rfl
                          refine N_callVV [.int 3] [] cv_Reader_112 sk_88 rfl d_Reader_readLine_157 rfl (Nat.le_of_ble_eq_true rfl) (by decide) (by decide) (c_Reader_tellLineX_3 h343 T D hI345 o303 ((x_vl b uZ)) o303E (kn_call fh343 (kn_call fh331 (kn_call fh312 o303K rfl) rfl) rfl) o322 ((x_vl b ((x_en b uZ)))) o322E (kn_call fh343 (kn_call fh331 o322K rfl) rfl) z291 z291Z z291E (kn_call fh343 (kn_call fh331 (kn_call fh312 (kn_call fh293 z291e.symm rfl) rfl) rfl) rfl) z369 z369Z z369E z369e.symm R349 (by omega) (by omega)) (fun h372 p373 => ?_)
                          obtain ⟨hI374, fh372, p373⟩ := p373
                          have f375 : fr S_Reader_readLineX h h372 := fr_call f346 fh372 rfl
                          have qR := p373
                          refine V_iconst 1 d_Reader_readLine_160 (by decide) ?_
                          exact V_zret rfl (by decide) d_Reader_readLine_161 ⟨1, rfl, ⟨hI374, f375, o337, o337Z, o337E, (kn_call fh372 (kn_call fh343 o337K rfl) rfl), o347, o347Z, o347E, (kn_call fh372 o347K rfl), o348, o348Z, o348E, (kn_call fh372 o348K rfl), (Or.inl ⟨rfl, ((x_line_3 (u := uZ) (by omega) hH hL).trans (by unfold x_l3; rw [x_sq_n (c := x_cN b uZ 0 15) (by omega), x_sq_n (c := x_c4 (T 3 (x_vl b uZ))) (by omega), x_sq_n (c := x_cN b (x_en b uZ) 0 10) (by omega), x_sq_n (c := x_cS b (x_en b (x_en b uZ))) (by omega)])).trans (pq rfl (by omega)), by omega, by omega, by omega, by rw [x_T_3 T (u := uZ) (by omega) hL, x_D_3 D (u := uZ) (by omega) hL]; exact qR⟩)⟩⟩
                        ·
                          refine V_iconst 0 d_Reader_readLine_153 (by decide) ?_
                          exact V_zret rfl (by decide) d_Reader_readLine_154 ⟨0, rfl, ⟨hI345, f346, o337, o337Z, o337E, (kn_call fh343 o337K rfl), o347, o347Z, o347E, o347K, o348, o348Z, o348E, o348K, (by have q := x_cS_s b (x_en b (x_en b uZ)); exact Or.inr ⟨tc_0, ((x_line_3 (u := uZ) (by omega) hH hL).trans (by unfold x_l3; rw [x_sq_n (c := x_cN b uZ 0 15) (by omega), x_sq_n (c := x_c4 (T 3 (x_vl b uZ))) (by omega), x_sq_n (c := x_cN b (x_en b uZ) 0 10) (by omega), x_sq_y (c := x_cS b (x_en b (x_en b uZ))) (by omega)])).trans (pq (by omega) (by omega)), by omega⟩)⟩⟩
                      ·
                        exact absurd c329 (by decide)
                    ·
                      refine V_iconst 0 d_Reader_readLine_130 (by decide) ?_
                      exact V_zret rfl (by decide) d_Reader_readLine_131 ⟨0, rfl, ⟨hI314, f315, o318, o318Z, o318E, o318K, o320, o320Z, o320E, o320K, o321, o321Z, o321E, o321K, (by exact Or.inr ⟨tc_0, ((x_line_3 (u := uZ) (by omega) hH hL).trans (by unfold x_l3; rw [x_sq_n (c := x_cN b uZ 0 15) (by omega), x_sq_n (c := x_c4 (T 3 (x_vl b uZ))) (by omega), x_sq_y (c := x_cN b (x_en b uZ) 0 10) (by omega)])).trans (pq (by omega) (by omega)), by omega⟩)⟩⟩
                ·
                  refine V_iconst 0 d_Reader_readLine_130 (by decide) ?_
                  exact V_zret rfl (by decide) d_Reader_readLine_131 ⟨0, rfl, ⟨hI295, f296, o299, o299Z, o299E, o299K, o301, o301Z, o301E, o301K, o302, o302Z, o302E, o302K, (if q9 : x_cN b uZ 0 15 = 0 then Or.inr ⟨tc_0, ((x_line_3 (u := uZ) (by omega) hH hL).trans (by unfold x_l3; rw [x_sq_n (c := x_cN b uZ 0 15) (by omega), x_sq_y (c := x_c4 (T 3 (x_vl b uZ))) (by omega)])).trans (pq (by omega) (by omega)), by omega⟩ else Or.inr ⟨tc_0, ((x_line_3 (u := uZ) (by omega) hH hL).trans (by unfold x_l3; rw [x_sq_y (c := x_cN b uZ 0 15) (by omega)])).trans (pq (by omega) (by omega)), by omega⟩)⟩⟩
            ·
              exact absurd c288 (by decide)
          ·
            exact absurd c287 (by decide)
        ·
          exact absurd c286 (by omega)
      ·
        obtain rfl : z13 = 4 := (ti_eq z13E tc_4).mpr c18
        subst c18
        have hL : x_li b p0 = 4 := by omega
        refine V_iload_n 1 d_Reader_readLine_32 rfl rfl ?_
        refine N_callSI [.int 4] [] cs_Reader_91 d_Reader_readLine_33 rfl (Nat.le_of_ble_eq_true rfl) (by decide) (by decide) (c_Reader_isOnceOnlyX_4 h5) (fun z376 h377 z376Z z376E p378 => ?_)
        obtain ⟨eh377, p378⟩ := p378
        subst eh377
        refine V_if_eq 61 z376E d_Reader_readLine_36 (by decide) (fun c379 => ?_) (fun c379 => ?_)
        ·
          refine V_iload_n 1 d_Reader_readLine_61 rfl rfl ?_
          refine V_bipush 9 d_Reader_readLine_62 (by decide) ?_
          refine V_icmp_ne 95 tc_4 tc_9 d_Reader_readLine_64 (by decide) (fun c380 => ?_) (fun c380 => ?_)
          ·
            have hH : x_cH b T (D 86) p0 = 0 := by have q := x_cH_s b T (D 86) p0; omega
            refine V_iload_n 1 d_Reader_readLine_95 rfl rfl ?_
            refine V_bipush 8 d_Reader_readLine_96 (by decide) ?_
            refine V_icmp_ne 110 tc_4 tc_8 d_Reader_readLine_98 (by decide) (fun c381 => ?_) (fun c381 => ?_)
            ·
              refine V_iconst 0 d_Reader_readLine_110 (by decide) ?_
              refine V_istore_n 2 [some (.ref 88), some (.int 4), some (.int 0)] d_Reader_readLine_111 rfl (by decide) rfl rfl ?_
              refine V_iload_n 2 d_Reader_readLine_112 rfl rfl ?_
              refine V_gets (v := .ref 132) zN ws_Reader_106 d_Reader_readLine_113 ?_
              refine V_iload_n 1 d_Reader_readLine_116 rfl rfl ?_
              refine V_tald roN tc_4 (by decide) d_Reader_readLine_117 (fun z382 z382Z z382E z382e => ?_)
              obtain rfl : z382 = 2 := z382e.trans rfl
              refine V_icmp_ge 138 tc_0 tc_2 d_Reader_readLine_118 (by decide) (fun c383 => ?_) (fun c383 => ?_)
              ·
                exact absurd c383 (by decide)
              ·
                refine V_aload_n 0 d_Reader_readLine_121 rfl rfl ?_
                refine V_iload_n 1 d_Reader_readLine_122 rfl rfl ?_
                refine V_iload_n 2 d_Reader_readLine_123 rfl rfl ?_
                obtain ⟨z384, z384Z, z384E, z384e⟩ : ∃ (y : Int32) (Y : Int), y.toInt = Y ∧ y = h5.1 92 4 := ⟨_, _, rfl, rfl⟩
                refine N_callVI [.int 4, .int 0] [] cv_Reader_109 sk_88 rfl d_Reader_readLine_124 rfl (Nat.le_of_ble_eq_true rfl) (by decide) (by decide) (c_Reader_readNumberX_4_0 h5 b T hI7 s sZ sE (kn_call fh5 sK rfl) u uZ uE (kn_call fh5 uK rfl) o10 o10Z o10E o10K o9 o9Z o9E o9K z384 z384Z z384E z384e.symm (TP_fr f8 (fun _ => rfl) hy0) (by omega) (TB_kn z384e.symm (R11.1.1 4 (by decide) (by decide)))) (fun z385 h386 z385Z z385E p387 => ?_)
                obtain ⟨hI388, fh386, o390, o390Z, o390E, o390K, o391, o391Z, o391E, o391K, o392, o392Z, o392E, o392K, o393, o393Z, o393E, o393K, o394, o394Z, o394E, o394K, o395, o395Z, o395E, o395K, o396, o396Z, o396E, o396K, p387⟩ := p387
                have f389 : fr S_Reader_readLineX h h386 := fr_call f8 fh386 rfl
                have R397 : RC h386 T D := RC_fr fh386 rfl R11
                have g398 : 0 ≤ o391Z ∧ o391Z ≤ 160 := inv_at hI388 o391E o391K.symm rfl
                have g399 : 0 ≤ o392Z ∧ o392Z ≤ 160 := inv_at hI388 o392E o392K.symm rfl
                refine V_if_ne 132 z385E d_Reader_readLine_127 (by decide) (fun c400 => ?_) (fun c400 => ?_)
                ·
                  replace p387 := p387.resolve_right (fun q => by omega)
                  obtain rfl : o392Z = x_en b uZ := by omega
                  obtain rfl : o396Z = x_vl b uZ := by omega
                  refine V_iinc (v := 1) 2 [some (.ref 88), some (.int 4), some (.int 1)] d_Reader_readLine_132 rfl (by decide) (by decide) rfl rfl ?_
                  refine V_goto 112 d_Reader_readLine_135 (by decide) ?_
                  refine V_iload_n 2 d_Reader_readLine_112 rfl rfl ?_
                  refine V_gets (v := .ref 132) zN ws_Reader_106 d_Reader_readLine_113 ?_
                  refine V_iload_n 1 d_Reader_readLine_116 rfl rfl ?_
                  refine V_tald roN tc_4 (by decide) d_Reader_readLine_117 (fun z402 z402Z z402E z402e => ?_)
                  obtain rfl : z402 = 2 := z402e.trans rfl
                  refine V_icmp_ge 138 tc_1 tc_2 d_Reader_readLine_118 (by decide) (fun c403 => ?_) (fun c403 => ?_)
                  ·
                    exact absurd c403 (by decide)
                  ·
                    refine V_aload_n 0 d_Reader_readLine_121 rfl rfl ?_
                    refine V_iload_n 1 d_Reader_readLine_122 rfl rfl ?_
                    refine V_iload_n 2 d_Reader_readLine_123 rfl rfl ?_
                    refine N_callVI [.int 4, .int 1] [] cv_Reader_109 sk_88 rfl d_Reader_readLine_124 rfl (Nat.le_of_ble_eq_true rfl) (by decide) (by decide) (c_Reader_readNumberX_4_1 h386 b T hI388 s sZ sE (kn_call fh386 (kn_call fh5 sK rfl) rfl) o392 ((x_en b uZ)) o392E o392K o395 o395Z o395E o395K o394 o394Z o394E o394K (TP_fr f389 (fun _ => rfl) hy0) (by omega)) (fun z404 h405 z404Z z404E p406 => ?_)
                    obtain ⟨hI407, fh405, o409, o409Z, o409E, o409K, o410, o410Z, o410E, o410K, o411, o411Z, o411E, o411K, o412, o412Z, o412E, o412K, o413, o413Z, o413E, o413K, o414, o414Z, o414E, o414K, o415, o415Z, o415E, o415K, p406⟩ := p406
                    have f408 : fr S_Reader_readLineX h h405 := fr_call f389 fh405 rfl
                    have R416 : RC h405 T D := RC_fr fh405 rfl R397
                    have g417 : 0 ≤ o410Z ∧ o410Z ≤ 160 := inv_at hI407 o410E o410K.symm rfl
                    have g418 : 0 ≤ o411Z ∧ o411Z ≤ 160 := inv_at hI407 o411E o411K.symm rfl
                    refine V_if_ne 132 z404E d_Reader_readLine_127 (by decide) (fun c419 => ?_) (fun c419 => ?_)
                    ·
                      replace p406 := p406.resolve_right (fun q => by omega)
                      obtain rfl : o411Z = x_en b ((x_en b uZ)) := by omega
                      obtain rfl : o415Z = x_vl b ((x_en b uZ)) := by omega
                      refine V_iinc (v := 2) 2 [some (.ref 88), some (.int 4), some (.int 2)] d_Reader_readLine_132 rfl (by decide) (by decide) rfl rfl ?_
                      refine V_goto 112 d_Reader_readLine_135 (by decide) ?_
                      refine V_iload_n 2 d_Reader_readLine_112 rfl rfl ?_
                      refine V_gets (v := .ref 132) zN ws_Reader_106 d_Reader_readLine_113 ?_
                      refine V_iload_n 1 d_Reader_readLine_116 rfl rfl ?_
                      refine V_tald roN tc_4 (by decide) d_Reader_readLine_117 (fun z421 z421Z z421E z421e => ?_)
                      obtain rfl : z421 = 2 := z421e.trans rfl
                      refine V_icmp_ge 138 tc_2 tc_2 d_Reader_readLine_118 (by decide) (fun c422 => ?_) (fun c422 => ?_)
                      ·
                        refine V_aload_n 0 d_Reader_readLine_138 rfl rfl ?_
                        refine V_getR fa_Reader_12 sk_88 rfl d_Reader_readLine_139 ?_
                        refine N_callVV [] [] cv_Reader_48 sk_89 rfl d_Reader_readLine_142 rfl (Nat.le_of_ble_eq_true rfl) (by decide) (by decide) (c_Tape_advanceX h405 b hI407 s sZ sE (kn_call fh405 (kn_call fh386 (kn_call fh5 sK rfl) rfl) rfl) o411 ((x_en b ((x_en b uZ)))) o411E o411K (TP_fr f408 (fun _ => rfl) hy0) (by omega)) (fun h424 p425 => ?_)
                        obtain ⟨hI426, fh424, o428, o428Z, o428E, o428K, o429, o429Z, o429E, o429K, o430, o430Z, o430E, o430K, o431, o431Z, o431E, o431K, p425⟩ := p425
                        have f427 : fr S_Reader_readLineX h h424 := fr_call f408 fh424 rfl
                        have R432 : RC h424 T D := RC_fr fh424 rfl R416
                        have g433 : 0 ≤ o429Z ∧ o429Z ≤ 160 := inv_at hI426 o429E o429K.symm rfl
                        have g434 : 0 ≤ o430Z ∧ o430Z ≤ 160 := inv_at hI426 o430E o430K.symm rfl
                        refine V_aload_n 0 d_Reader_readLine_145 rfl rfl ?_
                        refine V_iconst 3 d_Reader_readLine_146 (by decide) ?_
                        refine N_callVI [.int 3] [] cv_Reader_84 sk_88 rfl d_Reader_readLine_147 rfl (Nat.le_of_ble_eq_true rfl) (by decide) (by decide) (c_Reader_isKindX h424 hI426 3 3 tc_3 o428 o428Z o428E o428K o429 o429Z o429E o429K o414 o414Z o414E (kn_call fh424 o414K rfl) o413 o413Z o413E (kn_call fh424 o413K rfl)) (fun z435 h436 z435Z z435E p437 => ?_)
                        obtain ⟨hI438, fh436, o440, o440Z, o440E, o440K, o441, o441Z, o441E, o441K, p437⟩ := p437
                        have f439 : fr S_Reader_readLineX h h436 := fr_call f427 fh436 rfl
                        have R442 : RC h436 T D := RC_fr fh436 rfl R432
                        refine V_if_ne 155 z435E d_Reader_readLine_150 (by decide) (fun c443 => ?_) (fun c443 => ?_)
                        ·
                          replace p437 := (p437.resolve_left (fun q => by omega)).resolve_right (fun q => by omega)
                          have hS : x_cS b (x_en b ((x_en b uZ))) = 0 := by have := x_cS_s b (x_en b ((x_en b uZ))); omega
                          have g444 := x_cN_s b uZ 0 15
                          have g448 := x_cN_s b (x_en b uZ) 0 3
                          have g452 := x_cS_s b (x_en b (x_en b uZ))
                          refine V_aload_n 0 d_Reader_readLine_155 rfl rfl ?_
                          refine V_iload_n 1 d_Reader_readLine_156 rfl rfl ?_
                          obtain ⟨z462, z462Z, z462E, z462e⟩ : ∃ (y : Int32) (Y : Int), y.toInt = Y ∧ y = h436.1 75 4 := ⟨_, _, rfl, rfl⟩
                          have g463 : 0 ≤ z462Z ∧ z462Z ≤ 8 := inv_at hI438 z462E z462e rfl
                          refine N_callVV [.int 4] [] cv_Reader_112 sk_88 rfl d_Reader_readLine_157 rfl (Nat.le_of_ble_eq_true rfl) (by decide) (by decide) (c_Reader_tellLineX_4 h436 T D hI438 o396 ((x_vl b uZ)) o396E (kn_call fh436 (kn_call fh424 (kn_call fh405 o396K rfl) rfl) rfl) o415 ((x_vl b ((x_en b uZ)))) o415E (kn_call fh436 (kn_call fh424 o415K rfl) rfl) z384 z384Z z384E (kn_call fh436 (kn_call fh424 (kn_call fh405 (kn_call fh386 z384e.symm rfl) rfl) rfl) rfl) z462 z462Z z462E z462e.symm R442 (by omega) (by omega)) (fun h465 p466 => ?_)
                          obtain ⟨hI467, fh465, p466⟩ := p466
                          have f468 : fr S_Reader_readLineX h h465 := fr_call f439 fh465 rfl
                          have qR := p466
                          refine V_iconst 1 d_Reader_readLine_160 (by decide) ?_
                          exact V_zret rfl (by decide) d_Reader_readLine_161 ⟨1, rfl, ⟨hI467, f468, o430, o430Z, o430E, (kn_call fh465 (kn_call fh436 o430K rfl) rfl), o440, o440Z, o440E, (kn_call fh465 o440K rfl), o441, o441Z, o441E, (kn_call fh465 o441K rfl), (Or.inl ⟨rfl, ((x_line_4 (u := uZ) (by omega) hH hL).trans (by unfold x_l4; rw [x_sq_n (c := x_cN b uZ 0 15) (by omega), x_sq_n (c := x_c4 (T 4 (x_vl b uZ))) (by omega), x_sq_n (c := x_cN b (x_en b uZ) 0 3) (by omega), x_sq_n (c := x_cS b (x_en b (x_en b uZ))) (by omega)])).trans (pq rfl (by omega)), by omega, by omega, by omega, by rw [x_T_4 T (u := uZ) (by omega) hL, x_D_4 D (u := uZ) (by omega) hL]; exact qR⟩)⟩⟩
                        ·
                          refine V_iconst 0 d_Reader_readLine_153 (by decide) ?_
                          exact V_zret rfl (by decide) d_Reader_readLine_154 ⟨0, rfl, ⟨hI438, f439, o430, o430Z, o430E, (kn_call fh436 o430K rfl), o440, o440Z, o440E, o440K, o441, o441Z, o441E, o441K, (by have q := x_cS_s b (x_en b (x_en b uZ)); exact Or.inr ⟨tc_0, ((x_line_4 (u := uZ) (by omega) hH hL).trans (by unfold x_l4; rw [x_sq_n (c := x_cN b uZ 0 15) (by omega), x_sq_n (c := x_c4 (T 4 (x_vl b uZ))) (by omega), x_sq_n (c := x_cN b (x_en b uZ) 0 3) (by omega), x_sq_y (c := x_cS b (x_en b (x_en b uZ))) (by omega)])).trans (pq (by omega) (by omega)), by omega⟩)⟩⟩
                      ·
                        exact absurd c422 (by decide)
                    ·
                      refine V_iconst 0 d_Reader_readLine_130 (by decide) ?_
                      exact V_zret rfl (by decide) d_Reader_readLine_131 ⟨0, rfl, ⟨hI407, f408, o411, o411Z, o411E, o411K, o413, o413Z, o413E, o413K, o414, o414Z, o414E, o414K, (by exact Or.inr ⟨tc_0, ((x_line_4 (u := uZ) (by omega) hH hL).trans (by unfold x_l4; rw [x_sq_n (c := x_cN b uZ 0 15) (by omega), x_sq_n (c := x_c4 (T 4 (x_vl b uZ))) (by omega), x_sq_y (c := x_cN b (x_en b uZ) 0 3) (by omega)])).trans (pq (by omega) (by omega)), by omega⟩)⟩⟩
                ·
                  refine V_iconst 0 d_Reader_readLine_130 (by decide) ?_
                  exact V_zret rfl (by decide) d_Reader_readLine_131 ⟨0, rfl, ⟨hI388, f389, o392, o392Z, o392E, o392K, o394, o394Z, o394E, o394K, o395, o395Z, o395E, o395K, (if q9 : x_cN b uZ 0 15 = 0 then Or.inr ⟨tc_0, ((x_line_4 (u := uZ) (by omega) hH hL).trans (by unfold x_l4; rw [x_sq_n (c := x_cN b uZ 0 15) (by omega), x_sq_y (c := x_c4 (T 4 (x_vl b uZ))) (by omega)])).trans (pq (by omega) (by omega)), by omega⟩ else Or.inr ⟨tc_0, ((x_line_4 (u := uZ) (by omega) hH hL).trans (by unfold x_l4; rw [x_sq_y (c := x_cN b uZ 0 15) (by omega)])).trans (pq (by omega) (by omega)), by omega⟩)⟩⟩
            ·
              exact absurd c381 (by decide)
          ·
            exact absurd c380 (by decide)
        ·
          exact absurd c379 (by omega)
      ·
        obtain rfl : z13 = 5 := (ti_eq z13E tc_5).mpr c18
        subst c18
        have hL : x_li b p0 = 5 := by omega
        refine V_iload_n 1 d_Reader_readLine_32 rfl rfl ?_
        refine N_callSI [.int 5] [] cs_Reader_91 d_Reader_readLine_33 rfl (Nat.le_of_ble_eq_true rfl) (by decide) (by decide) (c_Reader_isOnceOnlyX_5 h5) (fun z469 h470 z469Z z469E p471 => ?_)
        obtain ⟨eh470, p471⟩ := p471
        subst eh470
        refine V_if_eq 61 z469E d_Reader_readLine_36 (by decide) (fun c472 => ?_) (fun c472 => ?_)
        ·
          refine V_iload_n 1 d_Reader_readLine_61 rfl rfl ?_
          refine V_bipush 9 d_Reader_readLine_62 (by decide) ?_
          refine V_icmp_ne 95 tc_5 tc_9 d_Reader_readLine_64 (by decide) (fun c473 => ?_) (fun c473 => ?_)
          ·
            have hH : x_cH b T (D 86) p0 = 0 := by have q := x_cH_s b T (D 86) p0; omega
            refine V_iload_n 1 d_Reader_readLine_95 rfl rfl ?_
            refine V_bipush 8 d_Reader_readLine_96 (by decide) ?_
            refine V_icmp_ne 110 tc_5 tc_8 d_Reader_readLine_98 (by decide) (fun c474 => ?_) (fun c474 => ?_)
            ·
              refine V_iconst 0 d_Reader_readLine_110 (by decide) ?_
              refine V_istore_n 2 [some (.ref 88), some (.int 5), some (.int 0)] d_Reader_readLine_111 rfl (by decide) rfl rfl ?_
              refine V_iload_n 2 d_Reader_readLine_112 rfl rfl ?_
              refine V_gets (v := .ref 132) zN ws_Reader_106 d_Reader_readLine_113 ?_
              refine V_iload_n 1 d_Reader_readLine_116 rfl rfl ?_
              refine V_tald roN tc_5 (by decide) d_Reader_readLine_117 (fun z475 z475Z z475E z475e => ?_)
              obtain rfl : z475 = 2 := z475e.trans rfl
              refine V_icmp_ge 138 tc_0 tc_2 d_Reader_readLine_118 (by decide) (fun c476 => ?_) (fun c476 => ?_)
              ·
                exact absurd c476 (by decide)
              ·
                refine V_aload_n 0 d_Reader_readLine_121 rfl rfl ?_
                refine V_iload_n 1 d_Reader_readLine_122 rfl rfl ?_
                refine V_iload_n 2 d_Reader_readLine_123 rfl rfl ?_
                obtain ⟨z477, z477Z, z477E, z477e⟩ : ∃ (y : Int32) (Y : Int), y.toInt = Y ∧ y = h5.1 92 5 := ⟨_, _, rfl, rfl⟩
                refine N_callVI [.int 5, .int 0] [] cv_Reader_109 sk_88 rfl d_Reader_readLine_124 rfl (Nat.le_of_ble_eq_true rfl) (by decide) (by decide) (c_Reader_readNumberX_5_0 h5 b T hI7 s sZ sE (kn_call fh5 sK rfl) u uZ uE (kn_call fh5 uK rfl) o10 o10Z o10E o10K o9 o9Z o9E o9K z477 z477Z z477E z477e.symm (TP_fr f8 (fun _ => rfl) hy0) (by omega) (TB_kn z477e.symm (R11.1.1 5 (by decide) (by decide)))) (fun z478 h479 z478Z z478E p480 => ?_)
                obtain ⟨hI481, fh479, o483, o483Z, o483E, o483K, o484, o484Z, o484E, o484K, o485, o485Z, o485E, o485K, o486, o486Z, o486E, o486K, o487, o487Z, o487E, o487K, o488, o488Z, o488E, o488K, o489, o489Z, o489E, o489K, p480⟩ := p480
                have f482 : fr S_Reader_readLineX h h479 := fr_call f8 fh479 rfl
                have R490 : RC h479 T D := RC_fr fh479 rfl R11
                have g491 : 0 ≤ o484Z ∧ o484Z ≤ 160 := inv_at hI481 o484E o484K.symm rfl
                have g492 : 0 ≤ o485Z ∧ o485Z ≤ 160 := inv_at hI481 o485E o485K.symm rfl
                refine V_if_ne 132 z478E d_Reader_readLine_127 (by decide) (fun c493 => ?_) (fun c493 => ?_)
                ·
                  replace p480 := p480.resolve_right (fun q => by omega)
                  obtain rfl : o485Z = x_en b uZ := by omega
                  obtain rfl : o489Z = x_vl b uZ := by omega
                  refine V_iinc (v := 1) 2 [some (.ref 88), some (.int 5), some (.int 1)] d_Reader_readLine_132 rfl (by decide) (by decide) rfl rfl ?_
                  refine V_goto 112 d_Reader_readLine_135 (by decide) ?_
                  refine V_iload_n 2 d_Reader_readLine_112 rfl rfl ?_
                  refine V_gets (v := .ref 132) zN ws_Reader_106 d_Reader_readLine_113 ?_
                  refine V_iload_n 1 d_Reader_readLine_116 rfl rfl ?_
                  refine V_tald roN tc_5 (by decide) d_Reader_readLine_117 (fun z495 z495Z z495E z495e => ?_)
                  obtain rfl : z495 = 2 := z495e.trans rfl
                  refine V_icmp_ge 138 tc_1 tc_2 d_Reader_readLine_118 (by decide) (fun c496 => ?_) (fun c496 => ?_)
                  ·
                    exact absurd c496 (by decide)
                  ·
                    refine V_aload_n 0 d_Reader_readLine_121 rfl rfl ?_
                    refine V_iload_n 1 d_Reader_readLine_122 rfl rfl ?_
                    refine V_iload_n 2 d_Reader_readLine_123 rfl rfl ?_
                    refine N_callVI [.int 5, .int 1] [] cv_Reader_109 sk_88 rfl d_Reader_readLine_124 rfl (Nat.le_of_ble_eq_true rfl) (by decide) (by decide) (c_Reader_readNumberX_5_1 h479 b T hI481 s sZ sE (kn_call fh479 (kn_call fh5 sK rfl) rfl) o485 ((x_en b uZ)) o485E o485K o488 o488Z o488E o488K o487 o487Z o487E o487K (TP_fr f482 (fun _ => rfl) hy0) (by omega)) (fun z497 h498 z497Z z497E p499 => ?_)
                    obtain ⟨hI500, fh498, o502, o502Z, o502E, o502K, o503, o503Z, o503E, o503K, o504, o504Z, o504E, o504K, o505, o505Z, o505E, o505K, o506, o506Z, o506E, o506K, o507, o507Z, o507E, o507K, o508, o508Z, o508E, o508K, p499⟩ := p499
                    have f501 : fr S_Reader_readLineX h h498 := fr_call f482 fh498 rfl
                    have R509 : RC h498 T D := RC_fr fh498 rfl R490
                    have g510 : 0 ≤ o503Z ∧ o503Z ≤ 160 := inv_at hI500 o503E o503K.symm rfl
                    have g511 : 0 ≤ o504Z ∧ o504Z ≤ 160 := inv_at hI500 o504E o504K.symm rfl
                    refine V_if_ne 132 z497E d_Reader_readLine_127 (by decide) (fun c512 => ?_) (fun c512 => ?_)
                    ·
                      replace p499 := p499.resolve_right (fun q => by omega)
                      obtain rfl : o504Z = x_en b ((x_en b uZ)) := by omega
                      obtain rfl : o508Z = x_vl b ((x_en b uZ)) := by omega
                      refine V_iinc (v := 2) 2 [some (.ref 88), some (.int 5), some (.int 2)] d_Reader_readLine_132 rfl (by decide) (by decide) rfl rfl ?_
                      refine V_goto 112 d_Reader_readLine_135 (by decide) ?_
                      refine V_iload_n 2 d_Reader_readLine_112 rfl rfl ?_
                      refine V_gets (v := .ref 132) zN ws_Reader_106 d_Reader_readLine_113 ?_
                      refine V_iload_n 1 d_Reader_readLine_116 rfl rfl ?_
                      refine V_tald roN tc_5 (by decide) d_Reader_readLine_117 (fun z514 z514Z z514E z514e => ?_)
                      obtain rfl : z514 = 2 := z514e.trans rfl
                      refine V_icmp_ge 138 tc_2 tc_2 d_Reader_readLine_118 (by decide) (fun c515 => ?_) (fun c515 => ?_)
                      ·
                        refine V_aload_n 0 d_Reader_readLine_138 rfl rfl ?_
                        refine V_getR fa_Reader_12 sk_88 rfl d_Reader_readLine_139 ?_
                        refine N_callVV [] [] cv_Reader_48 sk_89 rfl d_Reader_readLine_142 rfl (Nat.le_of_ble_eq_true rfl) (by decide) (by decide) (c_Tape_advanceX h498 b hI500 s sZ sE (kn_call fh498 (kn_call fh479 (kn_call fh5 sK rfl) rfl) rfl) o504 ((x_en b ((x_en b uZ)))) o504E o504K (TP_fr f501 (fun _ => rfl) hy0) (by omega)) (fun h517 p518 => ?_)
                        obtain ⟨hI519, fh517, o521, o521Z, o521E, o521K, o522, o522Z, o522E, o522K, o523, o523Z, o523E, o523K, o524, o524Z, o524E, o524K, p518⟩ := p518
                        have f520 : fr S_Reader_readLineX h h517 := fr_call f501 fh517 rfl
                        have R525 : RC h517 T D := RC_fr fh517 rfl R509
                        have g526 : 0 ≤ o522Z ∧ o522Z ≤ 160 := inv_at hI519 o522E o522K.symm rfl
                        have g527 : 0 ≤ o523Z ∧ o523Z ≤ 160 := inv_at hI519 o523E o523K.symm rfl
                        refine V_aload_n 0 d_Reader_readLine_145 rfl rfl ?_
                        refine V_iconst 3 d_Reader_readLine_146 (by decide) ?_
                        refine N_callVI [.int 3] [] cv_Reader_84 sk_88 rfl d_Reader_readLine_147 rfl (Nat.le_of_ble_eq_true rfl) (by decide) (by decide) (c_Reader_isKindX h517 hI519 3 3 tc_3 o521 o521Z o521E o521K o522 o522Z o522E o522K o507 o507Z o507E (kn_call fh517 o507K rfl) o506 o506Z o506E (kn_call fh517 o506K rfl)) (fun z528 h529 z528Z z528E p530 => ?_)
                        obtain ⟨hI531, fh529, o533, o533Z, o533E, o533K, o534, o534Z, o534E, o534K, p530⟩ := p530
                        have f532 : fr S_Reader_readLineX h h529 := fr_call f520 fh529 rfl
                        have R535 : RC h529 T D := RC_fr fh529 rfl R525
                        refine V_if_ne 155 z528E d_Reader_readLine_150 (by decide) (fun c536 => ?_) (fun c536 => ?_)
                        ·
                          replace p530 := (p530.resolve_left (fun q => by omega)).resolve_right (fun q => by omega)
                          have hS : x_cS b (x_en b ((x_en b uZ))) = 0 := by have := x_cS_s b (x_en b ((x_en b uZ))); omega
                          have g537 := x_cN_s b uZ 0 3
                          have g541 := x_cN_s b (x_en b uZ) 0 99
                          have g545 := x_cS_s b (x_en b (x_en b uZ))
                          refine V_aload_n 0 d_Reader_readLine_155 rfl rfl ?_
                          refine V_iload_n 1 d_Reader_readLine_156 rfl rfl ?_
                          obtain ⟨z555, z555Z, z555E, z555e⟩ : ∃ (y : Int32) (Y : Int), y.toInt = Y ∧ y = h529.1 75 4 := ⟨_, _, rfl, rfl⟩
                          have g556 : 0 ≤ z555Z ∧ z555Z ≤ 8 := inv_at hI531 z555E z555e rfl
                          refine N_callVV [.int 5] [] cv_Reader_112 sk_88 rfl d_Reader_readLine_157 rfl (Nat.le_of_ble_eq_true rfl) (by decide) (by decide) (c_Reader_tellLineX_5 h529 T D hI531 o489 ((x_vl b uZ)) o489E (kn_call fh529 (kn_call fh517 (kn_call fh498 o489K rfl) rfl) rfl) o508 ((x_vl b ((x_en b uZ)))) o508E (kn_call fh529 (kn_call fh517 o508K rfl) rfl) z477 z477Z z477E (kn_call fh529 (kn_call fh517 (kn_call fh498 (kn_call fh479 z477e.symm rfl) rfl) rfl) rfl) z555 z555Z z555E z555e.symm R535 (by omega) (by omega)) (fun h558 p559 => ?_)
                          obtain ⟨hI560, fh558, p559⟩ := p559
                          have f561 : fr S_Reader_readLineX h h558 := fr_call f532 fh558 rfl
                          have qR := p559
                          refine V_iconst 1 d_Reader_readLine_160 (by decide) ?_
                          exact V_zret rfl (by decide) d_Reader_readLine_161 ⟨1, rfl, ⟨hI560, f561, o523, o523Z, o523E, (kn_call fh558 (kn_call fh529 o523K rfl) rfl), o533, o533Z, o533E, (kn_call fh558 o533K rfl), o534, o534Z, o534E, (kn_call fh558 o534K rfl), (Or.inl ⟨rfl, ((x_line_5 (u := uZ) (by omega) hH hL).trans (by unfold x_l5; rw [x_sq_n (c := x_cN b uZ 0 3) (by omega), x_sq_n (c := x_c4 (T 5 (x_vl b uZ))) (by omega), x_sq_n (c := x_cN b (x_en b uZ) 0 99) (by omega), x_sq_n (c := x_cS b (x_en b (x_en b uZ))) (by omega)])).trans (pq rfl (by omega)), by omega, by omega, by omega, by rw [x_T_5 T (u := uZ) (by omega) hL, x_D_5 D (u := uZ) (by omega) hL]; exact qR⟩)⟩⟩
                        ·
                          refine V_iconst 0 d_Reader_readLine_153 (by decide) ?_
                          exact V_zret rfl (by decide) d_Reader_readLine_154 ⟨0, rfl, ⟨hI531, f532, o523, o523Z, o523E, (kn_call fh529 o523K rfl), o533, o533Z, o533E, o533K, o534, o534Z, o534E, o534K, (by have q := x_cS_s b (x_en b (x_en b uZ)); exact Or.inr ⟨tc_0, ((x_line_5 (u := uZ) (by omega) hH hL).trans (by unfold x_l5; rw [x_sq_n (c := x_cN b uZ 0 3) (by omega), x_sq_n (c := x_c4 (T 5 (x_vl b uZ))) (by omega), x_sq_n (c := x_cN b (x_en b uZ) 0 99) (by omega), x_sq_y (c := x_cS b (x_en b (x_en b uZ))) (by omega)])).trans (pq (by omega) (by omega)), by omega⟩)⟩⟩
                      ·
                        exact absurd c515 (by decide)
                    ·
                      refine V_iconst 0 d_Reader_readLine_130 (by decide) ?_
                      exact V_zret rfl (by decide) d_Reader_readLine_131 ⟨0, rfl, ⟨hI500, f501, o504, o504Z, o504E, o504K, o506, o506Z, o506E, o506K, o507, o507Z, o507E, o507K, (by exact Or.inr ⟨tc_0, ((x_line_5 (u := uZ) (by omega) hH hL).trans (by unfold x_l5; rw [x_sq_n (c := x_cN b uZ 0 3) (by omega), x_sq_n (c := x_c4 (T 5 (x_vl b uZ))) (by omega), x_sq_y (c := x_cN b (x_en b uZ) 0 99) (by omega)])).trans (pq (by omega) (by omega)), by omega⟩)⟩⟩
                ·
                  refine V_iconst 0 d_Reader_readLine_130 (by decide) ?_
                  exact V_zret rfl (by decide) d_Reader_readLine_131 ⟨0, rfl, ⟨hI481, f482, o485, o485Z, o485E, o485K, o487, o487Z, o487E, o487K, o488, o488Z, o488E, o488K, (if q9 : x_cN b uZ 0 3 = 0 then Or.inr ⟨tc_0, ((x_line_5 (u := uZ) (by omega) hH hL).trans (by unfold x_l5; rw [x_sq_n (c := x_cN b uZ 0 3) (by omega), x_sq_y (c := x_c4 (T 5 (x_vl b uZ))) (by omega)])).trans (pq (by omega) (by omega)), by omega⟩ else Or.inr ⟨tc_0, ((x_line_5 (u := uZ) (by omega) hH hL).trans (by unfold x_l5; rw [x_sq_y (c := x_cN b uZ 0 3) (by omega)])).trans (pq (by omega) (by omega)), by omega⟩)⟩⟩
            ·
              exact absurd c474 (by decide)
          ·
            exact absurd c473 (by decide)
        ·
          exact absurd c472 (by omega)
      ·
        obtain rfl : z13 = 6 := (ti_eq z13E tc_6).mpr c18
        subst c18
        have hL : x_li b p0 = 6 := by omega
        refine V_iload_n 1 d_Reader_readLine_32 rfl rfl ?_
        refine N_callSI [.int 6] [] cs_Reader_91 d_Reader_readLine_33 rfl (Nat.le_of_ble_eq_true rfl) (by decide) (by decide) (c_Reader_isOnceOnlyX_6 h5) (fun z562 h563 z562Z z562E p564 => ?_)
        obtain ⟨eh563, p564⟩ := p564
        subst eh563
        refine V_if_eq 61 z562E d_Reader_readLine_36 (by decide) (fun c565 => ?_) (fun c565 => ?_)
        ·
          exact absurd c565 (by omega)
        ·
          refine V_aload_n 0 d_Reader_readLine_39 rfl rfl ?_
          refine V_getR fa_Reader_29 sk_88 rfl d_Reader_readLine_40 ?_
          refine V_iload_n 1 d_Reader_readLine_43 rfl rfl ?_
          refine N_iald sk_92 tc_6 (by omega) d_Reader_readLine_44 (fun z566 z566Z z566E z566e => ?_)
          have g567 : z566Z = 0 ∧ T 6 0 = 0 ∨ z566Z ≠ 0 ∧ T 6 0 = 1 := by have q := R11.1.2 6 (by decide); unfold x_ON at q; rw [show h5.1 92 6 = z566 from z566e.symm, z566E] at q; exact q
          refine V_if_eq 61 z566E d_Reader_readLine_45 (by decide) (fun c568 => ?_) (fun c568 => ?_)
          ·
            refine V_iload_n 1 d_Reader_readLine_61 rfl rfl ?_
            refine V_bipush 9 d_Reader_readLine_62 (by decide) ?_
            refine V_icmp_ne 95 tc_6 tc_9 d_Reader_readLine_64 (by decide) (fun c569 => ?_) (fun c569 => ?_)
            ·
              have hH : x_cH b T (D 86) p0 = 0 := by have q := x_cH_s b T (D 86) p0; omega
              refine V_iload_n 1 d_Reader_readLine_95 rfl rfl ?_
              refine V_bipush 8 d_Reader_readLine_96 (by decide) ?_
              refine V_icmp_ne 110 tc_6 tc_8 d_Reader_readLine_98 (by decide) (fun c570 => ?_) (fun c570 => ?_)
              ·
                refine V_iconst 0 d_Reader_readLine_110 (by decide) ?_
                refine V_istore_n 2 [some (.ref 88), some (.int 6), some (.int 0)] d_Reader_readLine_111 rfl (by decide) rfl rfl ?_
                refine V_iload_n 2 d_Reader_readLine_112 rfl rfl ?_
                refine V_gets (v := .ref 132) zN ws_Reader_106 d_Reader_readLine_113 ?_
                refine V_iload_n 1 d_Reader_readLine_116 rfl rfl ?_
                refine V_tald roN tc_6 (by decide) d_Reader_readLine_117 (fun z571 z571Z z571E z571e => ?_)
                obtain rfl : z571 = 1 := z571e.trans rfl
                refine V_icmp_ge 138 tc_0 tc_1 d_Reader_readLine_118 (by decide) (fun c572 => ?_) (fun c572 => ?_)
                ·
                  exact absurd c572 (by decide)
                ·
                  refine V_aload_n 0 d_Reader_readLine_121 rfl rfl ?_
                  refine V_iload_n 1 d_Reader_readLine_122 rfl rfl ?_
                  refine V_iload_n 2 d_Reader_readLine_123 rfl rfl ?_
                  refine N_callVI [.int 6, .int 0] [] cv_Reader_109 sk_88 rfl d_Reader_readLine_124 rfl (Nat.le_of_ble_eq_true rfl) (by decide) (by decide) (c_Reader_readNumberX_6_0 h5 b T hI7 s sZ sE (kn_call fh5 sK rfl) u uZ uE (kn_call fh5 uK rfl) o10 o10Z o10E o10K o9 o9Z o9E o9K (TP_fr f8 (fun _ => rfl) hy0) (by omega)) (fun z573 h574 z573Z z573E p575 => ?_)
                  obtain ⟨hI576, fh574, o578, o578Z, o578E, o578K, o579, o579Z, o579E, o579K, o580, o580Z, o580E, o580K, o581, o581Z, o581E, o581K, o582, o582Z, o582E, o582K, o583, o583Z, o583E, o583K, o584, o584Z, o584E, o584K, p575⟩ := p575
                  have f577 : fr S_Reader_readLineX h h574 := fr_call f8 fh574 rfl
                  have R585 : RC h574 T D := RC_fr fh574 rfl R11
                  have g586 : 0 ≤ o579Z ∧ o579Z ≤ 160 := inv_at hI576 o579E o579K.symm rfl
                  have g587 : 0 ≤ o580Z ∧ o580Z ≤ 160 := inv_at hI576 o580E o580K.symm rfl
                  refine V_if_ne 132 z573E d_Reader_readLine_127 (by decide) (fun c588 => ?_) (fun c588 => ?_)
                  ·
                    replace p575 := p575.resolve_right (fun q => by omega)
                    obtain rfl : o580Z = x_en b uZ := by omega
                    obtain rfl : o584Z = x_vl b uZ := by omega
                    refine V_iinc (v := 1) 2 [some (.ref 88), some (.int 6), some (.int 1)] d_Reader_readLine_132 rfl (by decide) (by decide) rfl rfl ?_
                    refine V_goto 112 d_Reader_readLine_135 (by decide) ?_
                    refine V_iload_n 2 d_Reader_readLine_112 rfl rfl ?_
                    refine V_gets (v := .ref 132) zN ws_Reader_106 d_Reader_readLine_113 ?_
                    refine V_iload_n 1 d_Reader_readLine_116 rfl rfl ?_
                    refine V_tald roN tc_6 (by decide) d_Reader_readLine_117 (fun z590 z590Z z590E z590e => ?_)
                    obtain rfl : z590 = 1 := z590e.trans rfl
                    refine V_icmp_ge 138 tc_1 tc_1 d_Reader_readLine_118 (by decide) (fun c591 => ?_) (fun c591 => ?_)
                    ·
                      refine V_aload_n 0 d_Reader_readLine_138 rfl rfl ?_
                      refine V_getR fa_Reader_12 sk_88 rfl d_Reader_readLine_139 ?_
                      refine N_callVV [] [] cv_Reader_48 sk_89 rfl d_Reader_readLine_142 rfl (Nat.le_of_ble_eq_true rfl) (by decide) (by decide) (c_Tape_advanceX h574 b hI576 s sZ sE (kn_call fh574 (kn_call fh5 sK rfl) rfl) o580 ((x_en b uZ)) o580E o580K (TP_fr f577 (fun _ => rfl) hy0) (by omega)) (fun h593 p594 => ?_)
                      obtain ⟨hI595, fh593, o597, o597Z, o597E, o597K, o598, o598Z, o598E, o598K, o599, o599Z, o599E, o599K, o600, o600Z, o600E, o600K, p594⟩ := p594
                      have f596 : fr S_Reader_readLineX h h593 := fr_call f577 fh593 rfl
                      have R601 : RC h593 T D := RC_fr fh593 rfl R585
                      have g602 : 0 ≤ o598Z ∧ o598Z ≤ 160 := inv_at hI595 o598E o598K.symm rfl
                      have g603 : 0 ≤ o599Z ∧ o599Z ≤ 160 := inv_at hI595 o599E o599K.symm rfl
                      refine V_aload_n 0 d_Reader_readLine_145 rfl rfl ?_
                      refine V_iconst 3 d_Reader_readLine_146 (by decide) ?_
                      refine N_callVI [.int 3] [] cv_Reader_84 sk_88 rfl d_Reader_readLine_147 rfl (Nat.le_of_ble_eq_true rfl) (by decide) (by decide) (c_Reader_isKindX h593 hI595 3 3 tc_3 o597 o597Z o597E o597K o598 o598Z o598E o598K o583 o583Z o583E (kn_call fh593 o583K rfl) o582 o582Z o582E (kn_call fh593 o582K rfl)) (fun z604 h605 z604Z z604E p606 => ?_)
                      obtain ⟨hI607, fh605, o609, o609Z, o609E, o609K, o610, o610Z, o610E, o610K, p606⟩ := p606
                      have f608 : fr S_Reader_readLineX h h605 := fr_call f596 fh605 rfl
                      have R611 : RC h605 T D := RC_fr fh605 rfl R601
                      refine V_if_ne 155 z604E d_Reader_readLine_150 (by decide) (fun c612 => ?_) (fun c612 => ?_)
                      ·
                        replace p606 := (p606.resolve_left (fun q => by omega)).resolve_right (fun q => by omega)
                        have hS : x_cS b (x_en b uZ) = 0 := by have := x_cS_s b (x_en b uZ); omega
                        have g613 := x_cN_s b uZ 1 9
                        have g616 := x_cS_s b (x_en b uZ)
                        refine V_aload_n 0 d_Reader_readLine_155 rfl rfl ?_
                        refine V_iload_n 1 d_Reader_readLine_156 rfl rfl ?_
                        obtain ⟨z625, z625Z, z625E, z625e⟩ : ∃ (y : Int32) (Y : Int), y.toInt = Y ∧ y = h605.1 75 4 := ⟨_, _, rfl, rfl⟩
                        have g626 : 0 ≤ z625Z ∧ z625Z ≤ 8 := inv_at hI607 z625E z625e rfl
                        refine N_callVV [.int 6] [] cv_Reader_112 sk_88 rfl d_Reader_readLine_157 rfl (Nat.le_of_ble_eq_true rfl) (by decide) (by decide) (c_Reader_tellLineX_6 h605 T D hI607 o584 ((x_vl b uZ)) o584E (kn_call fh605 (kn_call fh593 o584K rfl) rfl) z566 z566Z z566E (kn_call fh605 (kn_call fh593 (kn_call fh574 z566e.symm rfl) rfl) rfl) z625 z625Z z625E z625e.symm R611 (by omega)) (fun h628 p629 => ?_)
                        obtain ⟨hI630, fh628, p629⟩ := p629
                        have f631 : fr S_Reader_readLineX h h628 := fr_call f608 fh628 rfl
                        have qR := p629
                        refine V_iconst 1 d_Reader_readLine_160 (by decide) ?_
                        exact V_zret rfl (by decide) d_Reader_readLine_161 ⟨1, rfl, ⟨hI630, f631, o599, o599Z, o599E, (kn_call fh628 (kn_call fh605 o599K rfl) rfl), o609, o609Z, o609E, (kn_call fh628 o609K rfl), o610, o610Z, o610E, (kn_call fh628 o610K rfl), (Or.inl ⟨rfl, ((x_line_6 (u := uZ) (by omega) hH hL).trans (by unfold x_l6; rw [x_sq_n (c := x_cN b uZ 1 9) (by omega), x_sq_n (c := x_cS b (x_en b uZ)) (by omega)])).trans (pq rfl (by omega)), by omega, by omega, by omega, by rw [x_T_6 T (u := uZ) (by omega) hL, x_D_6 D (u := uZ) (by omega) hL]; exact qR⟩)⟩⟩
                      ·
                        refine V_iconst 0 d_Reader_readLine_153 (by decide) ?_
                        exact V_zret rfl (by decide) d_Reader_readLine_154 ⟨0, rfl, ⟨hI607, f608, o599, o599Z, o599E, (kn_call fh605 o599K rfl), o609, o609Z, o609E, o609K, o610, o610Z, o610E, o610K, (by have q := x_cS_s b (x_en b uZ); exact Or.inr ⟨tc_0, ((x_line_6 (u := uZ) (by omega) hH hL).trans (by unfold x_l6; rw [x_sq_n (c := x_cN b uZ 1 9) (by omega), x_sq_y (c := x_cS b (x_en b uZ)) (by omega)])).trans (pq (by omega) (by omega)), by omega⟩)⟩⟩
                    ·
                      exact absurd c591 (by decide)
                  ·
                    refine V_iconst 0 d_Reader_readLine_130 (by decide) ?_
                    exact V_zret rfl (by decide) d_Reader_readLine_131 ⟨0, rfl, ⟨hI576, f577, o580, o580Z, o580E, o580K, o582, o582Z, o582E, o582K, o583, o583Z, o583E, o583K, (by exact Or.inr ⟨tc_0, ((x_line_6 (u := uZ) (by omega) hH hL).trans (by unfold x_l6; rw [x_sq_y (c := x_cN b uZ 1 9) (by omega)])).trans (pq (by omega) (by omega)), by omega⟩)⟩⟩
              ·
                exact absurd c570 (by decide)
            ·
              exact absurd c569 (by decide)
          ·
            refine V_aload_n 0 d_Reader_readLine_48 rfl rfl ?_
            refine V_iconst 4 d_Reader_readLine_49 (by decide) ?_
            refine V_aload_n 0 d_Reader_readLine_50 rfl rfl ?_
            refine V_getR fa_Reader_12 sk_88 rfl d_Reader_readLine_51 ?_
            refine N_getK fa_Reader_81 sk_89 rfl d_Reader_readLine_54 (kn_call fh5 fK rfl) ?_
            refine N_callVI [.int 4, .int f] [] cv_Reader_64 sk_88 rfl d_Reader_readLine_57 rfl (Nat.le_of_ble_eq_true rfl) (by decide) (by decide) (c_Reader_isRefusedX h5 hI7 4 4 tc_4 f fZ fE) (fun z632 h633 z632Z z632E p634 => ?_)
            obtain ⟨hI635, fh633, o637, o637Z, o637E, o637K, o638, o638Z, o638E, o638K, p634⟩ := p634
            have f636 : fr S_Reader_readLineX h h633 := fr_call f8 fh633 rfl
            have R639 : RC h633 T D := RC_fr fh633 rfl R11
            exact V_zret rfl (by rw [z632E]; omega) d_Reader_readLine_60 ⟨z632, rfl, ⟨hI635, f636, u, uZ, uE, (kn_call fh633 (kn_call fh5 uK rfl) rfl), o637, o637Z, o637E, o637K, o638, o638Z, o638E, o638K, (by have q := x_cH_s b T (D 86) p0; exact Or.inr ⟨by omega, (x_line_H (by omega)).trans (pq (by omega) (by omega)), by omega⟩)⟩⟩
      ·
        obtain rfl : z13 = 7 := (ti_eq z13E tc_7).mpr c18
        subst c18
        have hL : x_li b p0 = 7 := by omega
        refine V_iload_n 1 d_Reader_readLine_32 rfl rfl ?_
        refine N_callSI [.int 7] [] cs_Reader_91 d_Reader_readLine_33 rfl (Nat.le_of_ble_eq_true rfl) (by decide) (by decide) (c_Reader_isOnceOnlyX_7 h5) (fun z640 h641 z640Z z640E p642 => ?_)
        obtain ⟨eh641, p642⟩ := p642
        subst eh641
        refine V_if_eq 61 z640E d_Reader_readLine_36 (by decide) (fun c643 => ?_) (fun c643 => ?_)
        ·
          exact absurd c643 (by omega)
        ·
          refine V_aload_n 0 d_Reader_readLine_39 rfl rfl ?_
          refine V_getR fa_Reader_29 sk_88 rfl d_Reader_readLine_40 ?_
          refine V_iload_n 1 d_Reader_readLine_43 rfl rfl ?_
          refine N_iald sk_92 tc_7 (by omega) d_Reader_readLine_44 (fun z644 z644Z z644E z644e => ?_)
          have g645 : z644Z = 0 ∧ T 7 0 = 0 ∨ z644Z ≠ 0 ∧ T 7 0 = 1 := by have q := R11.1.2 7 (by decide); unfold x_ON at q; rw [show h5.1 92 7 = z644 from z644e.symm, z644E] at q; exact q
          refine V_if_eq 61 z644E d_Reader_readLine_45 (by decide) (fun c646 => ?_) (fun c646 => ?_)
          ·
            refine V_iload_n 1 d_Reader_readLine_61 rfl rfl ?_
            refine V_bipush 9 d_Reader_readLine_62 (by decide) ?_
            refine V_icmp_ne 95 tc_7 tc_9 d_Reader_readLine_64 (by decide) (fun c647 => ?_) (fun c647 => ?_)
            ·
              have hH : x_cH b T (D 86) p0 = 0 := by have q := x_cH_s b T (D 86) p0; omega
              refine V_iload_n 1 d_Reader_readLine_95 rfl rfl ?_
              refine V_bipush 8 d_Reader_readLine_96 (by decide) ?_
              refine V_icmp_ne 110 tc_7 tc_8 d_Reader_readLine_98 (by decide) (fun c648 => ?_) (fun c648 => ?_)
              ·
                refine V_iconst 0 d_Reader_readLine_110 (by decide) ?_
                refine V_istore_n 2 [some (.ref 88), some (.int 7), some (.int 0)] d_Reader_readLine_111 rfl (by decide) rfl rfl ?_
                refine V_iload_n 2 d_Reader_readLine_112 rfl rfl ?_
                refine V_gets (v := .ref 132) zN ws_Reader_106 d_Reader_readLine_113 ?_
                refine V_iload_n 1 d_Reader_readLine_116 rfl rfl ?_
                refine V_tald roN tc_7 (by decide) d_Reader_readLine_117 (fun z649 z649Z z649E z649e => ?_)
                obtain rfl : z649 = 1 := z649e.trans rfl
                refine V_icmp_ge 138 tc_0 tc_1 d_Reader_readLine_118 (by decide) (fun c650 => ?_) (fun c650 => ?_)
                ·
                  exact absurd c650 (by decide)
                ·
                  refine V_aload_n 0 d_Reader_readLine_121 rfl rfl ?_
                  refine V_iload_n 1 d_Reader_readLine_122 rfl rfl ?_
                  refine V_iload_n 2 d_Reader_readLine_123 rfl rfl ?_
                  refine N_callVI [.int 7, .int 0] [] cv_Reader_109 sk_88 rfl d_Reader_readLine_124 rfl (Nat.le_of_ble_eq_true rfl) (by decide) (by decide) (c_Reader_readNumberX_7_0 h5 b T hI7 s sZ sE (kn_call fh5 sK rfl) u uZ uE (kn_call fh5 uK rfl) o10 o10Z o10E o10K o9 o9Z o9E o9K (TP_fr f8 (fun _ => rfl) hy0) (by omega)) (fun z651 h652 z651Z z651E p653 => ?_)
                  obtain ⟨hI654, fh652, o656, o656Z, o656E, o656K, o657, o657Z, o657E, o657K, o658, o658Z, o658E, o658K, o659, o659Z, o659E, o659K, o660, o660Z, o660E, o660K, o661, o661Z, o661E, o661K, o662, o662Z, o662E, o662K, p653⟩ := p653
                  have f655 : fr S_Reader_readLineX h h652 := fr_call f8 fh652 rfl
                  have R663 : RC h652 T D := RC_fr fh652 rfl R11
                  have g664 : 0 ≤ o657Z ∧ o657Z ≤ 160 := inv_at hI654 o657E o657K.symm rfl
                  have g665 : 0 ≤ o658Z ∧ o658Z ≤ 160 := inv_at hI654 o658E o658K.symm rfl
                  refine V_if_ne 132 z651E d_Reader_readLine_127 (by decide) (fun c666 => ?_) (fun c666 => ?_)
                  ·
                    replace p653 := p653.resolve_right (fun q => by omega)
                    obtain rfl : o658Z = x_en b uZ := by omega
                    obtain rfl : o662Z = x_vl b uZ := by omega
                    refine V_iinc (v := 1) 2 [some (.ref 88), some (.int 7), some (.int 1)] d_Reader_readLine_132 rfl (by decide) (by decide) rfl rfl ?_
                    refine V_goto 112 d_Reader_readLine_135 (by decide) ?_
                    refine V_iload_n 2 d_Reader_readLine_112 rfl rfl ?_
                    refine V_gets (v := .ref 132) zN ws_Reader_106 d_Reader_readLine_113 ?_
                    refine V_iload_n 1 d_Reader_readLine_116 rfl rfl ?_
                    refine V_tald roN tc_7 (by decide) d_Reader_readLine_117 (fun z668 z668Z z668E z668e => ?_)
                    obtain rfl : z668 = 1 := z668e.trans rfl
                    refine V_icmp_ge 138 tc_1 tc_1 d_Reader_readLine_118 (by decide) (fun c669 => ?_) (fun c669 => ?_)
                    ·
                      refine V_aload_n 0 d_Reader_readLine_138 rfl rfl ?_
                      refine V_getR fa_Reader_12 sk_88 rfl d_Reader_readLine_139 ?_
                      refine N_callVV [] [] cv_Reader_48 sk_89 rfl d_Reader_readLine_142 rfl (Nat.le_of_ble_eq_true rfl) (by decide) (by decide) (c_Tape_advanceX h652 b hI654 s sZ sE (kn_call fh652 (kn_call fh5 sK rfl) rfl) o658 ((x_en b uZ)) o658E o658K (TP_fr f655 (fun _ => rfl) hy0) (by omega)) (fun h671 p672 => ?_)
                      obtain ⟨hI673, fh671, o675, o675Z, o675E, o675K, o676, o676Z, o676E, o676K, o677, o677Z, o677E, o677K, o678, o678Z, o678E, o678K, p672⟩ := p672
                      have f674 : fr S_Reader_readLineX h h671 := fr_call f655 fh671 rfl
                      have R679 : RC h671 T D := RC_fr fh671 rfl R663
                      have g680 : 0 ≤ o676Z ∧ o676Z ≤ 160 := inv_at hI673 o676E o676K.symm rfl
                      have g681 : 0 ≤ o677Z ∧ o677Z ≤ 160 := inv_at hI673 o677E o677K.symm rfl
                      refine V_aload_n 0 d_Reader_readLine_145 rfl rfl ?_
                      refine V_iconst 3 d_Reader_readLine_146 (by decide) ?_
                      refine N_callVI [.int 3] [] cv_Reader_84 sk_88 rfl d_Reader_readLine_147 rfl (Nat.le_of_ble_eq_true rfl) (by decide) (by decide) (c_Reader_isKindX h671 hI673 3 3 tc_3 o675 o675Z o675E o675K o676 o676Z o676E o676K o661 o661Z o661E (kn_call fh671 o661K rfl) o660 o660Z o660E (kn_call fh671 o660K rfl)) (fun z682 h683 z682Z z682E p684 => ?_)
                      obtain ⟨hI685, fh683, o687, o687Z, o687E, o687K, o688, o688Z, o688E, o688K, p684⟩ := p684
                      have f686 : fr S_Reader_readLineX h h683 := fr_call f674 fh683 rfl
                      have R689 : RC h683 T D := RC_fr fh683 rfl R679
                      refine V_if_ne 155 z682E d_Reader_readLine_150 (by decide) (fun c690 => ?_) (fun c690 => ?_)
                      ·
                        replace p684 := (p684.resolve_left (fun q => by omega)).resolve_right (fun q => by omega)
                        have hS : x_cS b (x_en b uZ) = 0 := by have := x_cS_s b (x_en b uZ); omega
                        have g691 := x_cN_s b uZ 1 99
                        have g694 := x_cS_s b (x_en b uZ)
                        refine V_aload_n 0 d_Reader_readLine_155 rfl rfl ?_
                        refine V_iload_n 1 d_Reader_readLine_156 rfl rfl ?_
                        obtain ⟨z703, z703Z, z703E, z703e⟩ : ∃ (y : Int32) (Y : Int), y.toInt = Y ∧ y = h683.1 75 4 := ⟨_, _, rfl, rfl⟩
                        have g704 : 0 ≤ z703Z ∧ z703Z ≤ 8 := inv_at hI685 z703E z703e rfl
                        refine N_callVV [.int 7] [] cv_Reader_112 sk_88 rfl d_Reader_readLine_157 rfl (Nat.le_of_ble_eq_true rfl) (by decide) (by decide) (c_Reader_tellLineX_7 h683 T D hI685 o662 ((x_vl b uZ)) o662E (kn_call fh683 (kn_call fh671 o662K rfl) rfl) z644 z644Z z644E (kn_call fh683 (kn_call fh671 (kn_call fh652 z644e.symm rfl) rfl) rfl) z703 z703Z z703E z703e.symm R689 (by omega)) (fun h706 p707 => ?_)
                        obtain ⟨hI708, fh706, p707⟩ := p707
                        have f709 : fr S_Reader_readLineX h h706 := fr_call f686 fh706 rfl
                        have qR := p707
                        refine V_iconst 1 d_Reader_readLine_160 (by decide) ?_
                        exact V_zret rfl (by decide) d_Reader_readLine_161 ⟨1, rfl, ⟨hI708, f709, o677, o677Z, o677E, (kn_call fh706 (kn_call fh683 o677K rfl) rfl), o687, o687Z, o687E, (kn_call fh706 o687K rfl), o688, o688Z, o688E, (kn_call fh706 o688K rfl), (Or.inl ⟨rfl, ((x_line_7 (u := uZ) (by omega) hH hL).trans (by unfold x_l7; rw [x_sq_n (c := x_cN b uZ 1 99) (by omega), x_sq_n (c := x_cS b (x_en b uZ)) (by omega)])).trans (pq rfl (by omega)), by omega, by omega, by omega, by rw [x_T_7 T (u := uZ) (by omega) hL, x_D_7 D (u := uZ) (by omega) hL]; exact qR⟩)⟩⟩
                      ·
                        refine V_iconst 0 d_Reader_readLine_153 (by decide) ?_
                        exact V_zret rfl (by decide) d_Reader_readLine_154 ⟨0, rfl, ⟨hI685, f686, o677, o677Z, o677E, (kn_call fh683 o677K rfl), o687, o687Z, o687E, o687K, o688, o688Z, o688E, o688K, (by have q := x_cS_s b (x_en b uZ); exact Or.inr ⟨tc_0, ((x_line_7 (u := uZ) (by omega) hH hL).trans (by unfold x_l7; rw [x_sq_n (c := x_cN b uZ 1 99) (by omega), x_sq_y (c := x_cS b (x_en b uZ)) (by omega)])).trans (pq (by omega) (by omega)), by omega⟩)⟩⟩
                    ·
                      exact absurd c669 (by decide)
                  ·
                    refine V_iconst 0 d_Reader_readLine_130 (by decide) ?_
                    exact V_zret rfl (by decide) d_Reader_readLine_131 ⟨0, rfl, ⟨hI654, f655, o658, o658Z, o658E, o658K, o660, o660Z, o660E, o660K, o661, o661Z, o661E, o661K, (by exact Or.inr ⟨tc_0, ((x_line_7 (u := uZ) (by omega) hH hL).trans (by unfold x_l7; rw [x_sq_y (c := x_cN b uZ 1 99) (by omega)])).trans (pq (by omega) (by omega)), by omega⟩)⟩⟩
              ·
                exact absurd c648 (by decide)
            ·
              exact absurd c647 (by decide)
          ·
            refine V_aload_n 0 d_Reader_readLine_48 rfl rfl ?_
            refine V_iconst 4 d_Reader_readLine_49 (by decide) ?_
            refine V_aload_n 0 d_Reader_readLine_50 rfl rfl ?_
            refine V_getR fa_Reader_12 sk_88 rfl d_Reader_readLine_51 ?_
            refine N_getK fa_Reader_81 sk_89 rfl d_Reader_readLine_54 (kn_call fh5 fK rfl) ?_
            refine N_callVI [.int 4, .int f] [] cv_Reader_64 sk_88 rfl d_Reader_readLine_57 rfl (Nat.le_of_ble_eq_true rfl) (by decide) (by decide) (c_Reader_isRefusedX h5 hI7 4 4 tc_4 f fZ fE) (fun z710 h711 z710Z z710E p712 => ?_)
            obtain ⟨hI713, fh711, o715, o715Z, o715E, o715K, o716, o716Z, o716E, o716K, p712⟩ := p712
            have f714 : fr S_Reader_readLineX h h711 := fr_call f8 fh711 rfl
            have R717 : RC h711 T D := RC_fr fh711 rfl R11
            exact V_zret rfl (by rw [z710E]; omega) d_Reader_readLine_60 ⟨z710, rfl, ⟨hI713, f714, u, uZ, uE, (kn_call fh711 (kn_call fh5 uK rfl) rfl), o715, o715Z, o715E, o715K, o716, o716Z, o716E, o716K, (by have q := x_cH_s b T (D 86) p0; exact Or.inr ⟨by omega, (x_line_H (by omega)).trans (pq (by omega) (by omega)), by omega⟩)⟩⟩
      ·
        obtain rfl : z13 = 8 := (ti_eq z13E tc_8).mpr c18
        subst c18
        have hL : x_li b p0 = 8 := by omega
        refine V_iload_n 1 d_Reader_readLine_32 rfl rfl ?_
        refine N_callSI [.int 8] [] cs_Reader_91 d_Reader_readLine_33 rfl (Nat.le_of_ble_eq_true rfl) (by decide) (by decide) (c_Reader_isOnceOnlyX_8 h5) (fun z718 h719 z718Z z718E p720 => ?_)
        obtain ⟨eh719, p720⟩ := p720
        subst eh719
        refine V_if_eq 61 z718E d_Reader_readLine_36 (by decide) (fun c721 => ?_) (fun c721 => ?_)
        ·
          exact absurd c721 (by omega)
        ·
          refine V_aload_n 0 d_Reader_readLine_39 rfl rfl ?_
          refine V_getR fa_Reader_29 sk_88 rfl d_Reader_readLine_40 ?_
          refine V_iload_n 1 d_Reader_readLine_43 rfl rfl ?_
          refine N_iald sk_92 tc_8 (by omega) d_Reader_readLine_44 (fun z722 z722Z z722E z722e => ?_)
          have g723 : z722Z = 0 ∧ T 8 0 = 0 ∨ z722Z ≠ 0 ∧ T 8 0 = 1 := by have q := R11.1.2 8 (by decide); unfold x_ON at q; rw [show h5.1 92 8 = z722 from z722e.symm, z722E] at q; exact q
          refine V_if_eq 61 z722E d_Reader_readLine_45 (by decide) (fun c724 => ?_) (fun c724 => ?_)
          ·
            refine V_iload_n 1 d_Reader_readLine_61 rfl rfl ?_
            refine V_bipush 9 d_Reader_readLine_62 (by decide) ?_
            refine V_icmp_ne 95 tc_8 tc_9 d_Reader_readLine_64 (by decide) (fun c725 => ?_) (fun c725 => ?_)
            ·
              have hH : x_cH b T (D 86) p0 = 0 := by have q := x_cH_s b T (D 86) p0; omega
              refine V_iload_n 1 d_Reader_readLine_95 rfl rfl ?_
              refine V_bipush 8 d_Reader_readLine_96 (by decide) ?_
              refine V_icmp_ne 110 tc_8 tc_8 d_Reader_readLine_98 (by decide) (fun c726 => ?_) (fun c726 => ?_)
              ·
                exact absurd c726 (by decide)
              ·
                refine V_aload_n 0 d_Reader_readLine_101 rfl rfl ?_
                refine N_callVI [] [] cv_Reader_103 sk_88 rfl d_Reader_readLine_102 rfl (Nat.le_of_ble_eq_true rfl) (by decide) (by decide) (c_Reader_readNatureX h5 b T hI7 s sZ sE (kn_call fh5 sK rfl) u uZ uE (kn_call fh5 uK rfl) o10 o10Z o10E o10K o9 o9Z o9E o9K (TP_fr f8 (fun _ => rfl) hy0) (by omega)) (fun z727 h728 z727Z z727E p729 => ?_)
                obtain ⟨hI730, fh728, o732, o732Z, o732E, o732K, o733, o733Z, o733E, o733K, o734, o734Z, o734E, o734K, o735, o735Z, o735E, o735K, o736, o736Z, o736E, o736K, o737, o737Z, o737E, o737K, o738, o738Z, o738E, o738K, p729⟩ := p729
                have f731 : fr S_Reader_readLineX h h728 := fr_call f8 fh728 rfl
                have R739 : RC h728 T D := RC_fr fh728 rfl R11
                have g740 : 0 ≤ o733Z ∧ o733Z ≤ 160 := inv_at hI730 o733E o733K.symm rfl
                have g741 : 0 ≤ o734Z ∧ o734Z ≤ 160 := inv_at hI730 o734E o734K.symm rfl
                refine V_if_ne 110 z727E d_Reader_readLine_105 (by decide) (fun c742 => ?_) (fun c742 => ?_)
                ·
                  replace p729 := p729.resolve_right (fun q => by omega)
                  obtain rfl : o734Z = x_en b uZ := by omega
                  obtain rfl : o738Z = x_nn b uZ := by omega
                  refine V_iconst 0 d_Reader_readLine_110 (by decide) ?_
                  refine V_istore_n 2 [some (.ref 88), some (.int 8), some (.int 0)] d_Reader_readLine_111 rfl (by decide) rfl rfl ?_
                  refine V_iload_n 2 d_Reader_readLine_112 rfl rfl ?_
                  refine V_gets (v := .ref 132) zN ws_Reader_106 d_Reader_readLine_113 ?_
                  refine V_iload_n 1 d_Reader_readLine_116 rfl rfl ?_
                  refine V_tald roN tc_8 (by decide) d_Reader_readLine_117 (fun z743 z743Z z743E z743e => ?_)
                  obtain rfl : z743 = 1 := z743e.trans rfl
                  refine V_icmp_ge 138 tc_0 tc_1 d_Reader_readLine_118 (by decide) (fun c744 => ?_) (fun c744 => ?_)
                  ·
                    exact absurd c744 (by decide)
                  ·
                    refine V_aload_n 0 d_Reader_readLine_121 rfl rfl ?_
                    refine V_iload_n 1 d_Reader_readLine_122 rfl rfl ?_
                    refine V_iload_n 2 d_Reader_readLine_123 rfl rfl ?_
                    refine N_callVI [.int 8, .int 0] [] cv_Reader_109 sk_88 rfl d_Reader_readLine_124 rfl (Nat.le_of_ble_eq_true rfl) (by decide) (by decide) (c_Reader_readNumberX_8_0 h728 b T hI730 s sZ sE (kn_call fh728 (kn_call fh5 sK rfl) rfl) o734 ((x_en b uZ)) o734E o734K o737 o737Z o737E o737K o736 o736Z o736E o736K (TP_fr f731 (fun _ => rfl) hy0) (by omega)) (fun z745 h746 z745Z z745E p747 => ?_)
                    obtain ⟨hI748, fh746, o750, o750Z, o750E, o750K, o751, o751Z, o751E, o751K, o752, o752Z, o752E, o752K, o753, o753Z, o753E, o753K, o754, o754Z, o754E, o754K, o755, o755Z, o755E, o755K, o756, o756Z, o756E, o756K, p747⟩ := p747
                    have f749 : fr S_Reader_readLineX h h746 := fr_call f731 fh746 rfl
                    have R757 : RC h746 T D := RC_fr fh746 rfl R739
                    have g758 : 0 ≤ o751Z ∧ o751Z ≤ 160 := inv_at hI748 o751E o751K.symm rfl
                    have g759 : 0 ≤ o752Z ∧ o752Z ≤ 160 := inv_at hI748 o752E o752K.symm rfl
                    refine V_if_ne 132 z745E d_Reader_readLine_127 (by decide) (fun c760 => ?_) (fun c760 => ?_)
                    ·
                      replace p747 := p747.resolve_right (fun q => by omega)
                      obtain rfl : o752Z = x_en b ((x_en b uZ)) := by omega
                      obtain rfl : o756Z = x_vl b ((x_en b uZ)) := by omega
                      refine V_iinc (v := 1) 2 [some (.ref 88), some (.int 8), some (.int 1)] d_Reader_readLine_132 rfl (by decide) (by decide) rfl rfl ?_
                      refine V_goto 112 d_Reader_readLine_135 (by decide) ?_
                      refine V_iload_n 2 d_Reader_readLine_112 rfl rfl ?_
                      refine V_gets (v := .ref 132) zN ws_Reader_106 d_Reader_readLine_113 ?_
                      refine V_iload_n 1 d_Reader_readLine_116 rfl rfl ?_
                      refine V_tald roN tc_8 (by decide) d_Reader_readLine_117 (fun z762 z762Z z762E z762e => ?_)
                      obtain rfl : z762 = 1 := z762e.trans rfl
                      refine V_icmp_ge 138 tc_1 tc_1 d_Reader_readLine_118 (by decide) (fun c763 => ?_) (fun c763 => ?_)
                      ·
                        refine V_aload_n 0 d_Reader_readLine_138 rfl rfl ?_
                        refine V_getR fa_Reader_12 sk_88 rfl d_Reader_readLine_139 ?_
                        refine N_callVV [] [] cv_Reader_48 sk_89 rfl d_Reader_readLine_142 rfl (Nat.le_of_ble_eq_true rfl) (by decide) (by decide) (c_Tape_advanceX h746 b hI748 s sZ sE (kn_call fh746 (kn_call fh728 (kn_call fh5 sK rfl) rfl) rfl) o752 ((x_en b ((x_en b uZ)))) o752E o752K (TP_fr f749 (fun _ => rfl) hy0) (by omega)) (fun h765 p766 => ?_)
                        obtain ⟨hI767, fh765, o769, o769Z, o769E, o769K, o770, o770Z, o770E, o770K, o771, o771Z, o771E, o771K, o772, o772Z, o772E, o772K, p766⟩ := p766
                        have f768 : fr S_Reader_readLineX h h765 := fr_call f749 fh765 rfl
                        have R773 : RC h765 T D := RC_fr fh765 rfl R757
                        have g774 : 0 ≤ o770Z ∧ o770Z ≤ 160 := inv_at hI767 o770E o770K.symm rfl
                        have g775 : 0 ≤ o771Z ∧ o771Z ≤ 160 := inv_at hI767 o771E o771K.symm rfl
                        refine V_aload_n 0 d_Reader_readLine_145 rfl rfl ?_
                        refine V_iconst 3 d_Reader_readLine_146 (by decide) ?_
                        refine N_callVI [.int 3] [] cv_Reader_84 sk_88 rfl d_Reader_readLine_147 rfl (Nat.le_of_ble_eq_true rfl) (by decide) (by decide) (c_Reader_isKindX h765 hI767 3 3 tc_3 o769 o769Z o769E o769K o770 o770Z o770E o770K o755 o755Z o755E (kn_call fh765 o755K rfl) o754 o754Z o754E (kn_call fh765 o754K rfl)) (fun z776 h777 z776Z z776E p778 => ?_)
                        obtain ⟨hI779, fh777, o781, o781Z, o781E, o781K, o782, o782Z, o782E, o782K, p778⟩ := p778
                        have f780 : fr S_Reader_readLineX h h777 := fr_call f768 fh777 rfl
                        have R783 : RC h777 T D := RC_fr fh777 rfl R773
                        refine V_if_ne 155 z776E d_Reader_readLine_150 (by decide) (fun c784 => ?_) (fun c784 => ?_)
                        ·
                          replace p778 := (p778.resolve_left (fun q => by omega)).resolve_right (fun q => by omega)
                          have hS : x_cS b (x_en b ((x_en b uZ))) = 0 := by have := x_cS_s b (x_en b ((x_en b uZ))); omega
                          have g785 := x_cK_s b uZ
                          have g789 := x_cN_s b (x_en b uZ) 1 9
                          have g793 := x_cS_s b (x_en b (x_en b uZ))
                          refine V_aload_n 0 d_Reader_readLine_155 rfl rfl ?_
                          refine V_iload_n 1 d_Reader_readLine_156 rfl rfl ?_
                          obtain ⟨z803, z803Z, z803E, z803e⟩ : ∃ (y : Int32) (Y : Int), y.toInt = Y ∧ y = h777.1 75 4 := ⟨_, _, rfl, rfl⟩
                          have g804 : 0 ≤ z803Z ∧ z803Z ≤ 8 := inv_at hI779 z803E z803e rfl
                          refine N_callVV [.int 8] [] cv_Reader_112 sk_88 rfl d_Reader_readLine_157 rfl (Nat.le_of_ble_eq_true rfl) (by decide) (by decide) (c_Reader_tellLineX_8 h777 T D hI779 o756 ((x_vl b ((x_en b uZ)))) o756E (kn_call fh777 (kn_call fh765 o756K rfl) rfl) z722 z722Z z722E (kn_call fh777 (kn_call fh765 (kn_call fh746 (kn_call fh728 z722e.symm rfl) rfl) rfl) rfl) z803 z803Z z803E z803e.symm o738 ((x_nn b uZ)) o738E (kn_call fh777 (kn_call fh765 (kn_call fh746 o738K rfl) rfl) rfl) R783 (by omega)) (fun h806 p807 => ?_)
                          obtain ⟨hI808, fh806, p807⟩ := p807
                          have f809 : fr S_Reader_readLineX h h806 := fr_call f780 fh806 rfl
                          have qR := p807
                          refine V_iconst 1 d_Reader_readLine_160 (by decide) ?_
                          exact V_zret rfl (by decide) d_Reader_readLine_161 ⟨1, rfl, ⟨hI808, f809, o771, o771Z, o771E, (kn_call fh806 (kn_call fh777 o771K rfl) rfl), o781, o781Z, o781E, (kn_call fh806 o781K rfl), o782, o782Z, o782E, (kn_call fh806 o782K rfl), (Or.inl ⟨rfl, ((x_line_8 (u := uZ) (by omega) hH hL).trans (by unfold x_l8; rw [x_sq_n (c := x_cK b uZ) (by omega), x_sq_n (c := x_cN b (x_en b uZ) 1 9) (by omega), x_sq_n (c := x_cS b (x_en b (x_en b uZ))) (by omega)])).trans (pq rfl (by omega)), by omega, by omega, by omega, by rw [x_T_8 T (u := uZ) (by omega) hL, x_D_8 D (u := uZ) (by omega) hL]; exact qR⟩)⟩⟩
                        ·
                          refine V_iconst 0 d_Reader_readLine_153 (by decide) ?_
                          exact V_zret rfl (by decide) d_Reader_readLine_154 ⟨0, rfl, ⟨hI779, f780, o771, o771Z, o771E, (kn_call fh777 o771K rfl), o781, o781Z, o781E, o781K, o782, o782Z, o782E, o782K, (by have q := x_cS_s b (x_en b (x_en b uZ)); exact Or.inr ⟨tc_0, ((x_line_8 (u := uZ) (by omega) hH hL).trans (by unfold x_l8; rw [x_sq_n (c := x_cK b uZ) (by omega), x_sq_n (c := x_cN b (x_en b uZ) 1 9) (by omega), x_sq_y (c := x_cS b (x_en b (x_en b uZ))) (by omega)])).trans (pq (by omega) (by omega)), by omega⟩)⟩⟩
                      ·
                        exact absurd c763 (by decide)
                    ·
                      refine V_iconst 0 d_Reader_readLine_130 (by decide) ?_
                      exact V_zret rfl (by decide) d_Reader_readLine_131 ⟨0, rfl, ⟨hI748, f749, o752, o752Z, o752E, o752K, o754, o754Z, o754E, o754K, o755, o755Z, o755E, o755K, (by exact Or.inr ⟨tc_0, ((x_line_8 (u := uZ) (by omega) hH hL).trans (by unfold x_l8; rw [x_sq_n (c := x_cK b uZ) (by omega), x_sq_y (c := x_cN b (x_en b uZ) 1 9) (by omega)])).trans (pq (by omega) (by omega)), by omega⟩)⟩⟩
                ·
                  refine V_iconst 0 d_Reader_readLine_108 (by decide) ?_
                  exact V_zret rfl (by decide) d_Reader_readLine_109 ⟨0, rfl, ⟨hI730, f731, o734, o734Z, o734E, o734K, o736, o736Z, o736E, o736K, o737, o737Z, o737E, o737K, (by exact Or.inr ⟨tc_0, ((x_line_8 (u := uZ) (by omega) hH hL).trans (by unfold x_l8; rw [x_sq_y (c := x_cK b uZ) (by omega)])).trans (pq (by omega) (by omega)), by omega⟩)⟩⟩
            ·
              exact absurd c725 (by decide)
          ·
            refine V_aload_n 0 d_Reader_readLine_48 rfl rfl ?_
            refine V_iconst 4 d_Reader_readLine_49 (by decide) ?_
            refine V_aload_n 0 d_Reader_readLine_50 rfl rfl ?_
            refine V_getR fa_Reader_12 sk_88 rfl d_Reader_readLine_51 ?_
            refine N_getK fa_Reader_81 sk_89 rfl d_Reader_readLine_54 (kn_call fh5 fK rfl) ?_
            refine N_callVI [.int 4, .int f] [] cv_Reader_64 sk_88 rfl d_Reader_readLine_57 rfl (Nat.le_of_ble_eq_true rfl) (by decide) (by decide) (c_Reader_isRefusedX h5 hI7 4 4 tc_4 f fZ fE) (fun z810 h811 z810Z z810E p812 => ?_)
            obtain ⟨hI813, fh811, o815, o815Z, o815E, o815K, o816, o816Z, o816E, o816K, p812⟩ := p812
            have f814 : fr S_Reader_readLineX h h811 := fr_call f8 fh811 rfl
            have R817 : RC h811 T D := RC_fr fh811 rfl R11
            exact V_zret rfl (by rw [z810E]; omega) d_Reader_readLine_60 ⟨z810, rfl, ⟨hI813, f814, u, uZ, uE, (kn_call fh811 (kn_call fh5 uK rfl) rfl), o815, o815Z, o815E, o815K, o816, o816Z, o816E, o816K, (by have q := x_cH_s b T (D 86) p0; exact Or.inr ⟨by omega, (x_line_H (by omega)).trans (pq (by omega) (by omega)), by omega⟩)⟩⟩
      ·
        obtain rfl : z13 = 9 := (ti_eq z13E tc_9).mpr c18
        subst c18
        have hL : x_li b p0 = 9 := by omega
        refine V_iload_n 1 d_Reader_readLine_32 rfl rfl ?_
        refine N_callSI [.int 9] [] cs_Reader_91 d_Reader_readLine_33 rfl (Nat.le_of_ble_eq_true rfl) (by decide) (by decide) (c_Reader_isOnceOnlyX_9 h5) (fun z818 h819 z818Z z818E p820 => ?_)
        obtain ⟨eh819, p820⟩ := p820
        subst eh819
        refine V_if_eq 61 z818E d_Reader_readLine_36 (by decide) (fun c821 => ?_) (fun c821 => ?_)
        ·
          refine V_iload_n 1 d_Reader_readLine_61 rfl rfl ?_
          refine V_bipush 9 d_Reader_readLine_62 (by decide) ?_
          refine V_icmp_ne 95 tc_9 tc_9 d_Reader_readLine_64 (by decide) (fun c822 => ?_) (fun c822 => ?_)
          ·
            exact absurd c822 (by decide)
          ·
            refine V_aload_n 0 d_Reader_readLine_67 rfl rfl ?_
            refine V_getR fa_Reader_21 sk_88 rfl d_Reader_readLine_68 ?_
            refine V_getR fa_Reader_94 sk_68 rfl d_Reader_readLine_71 ?_
            refine N_getI fa_Reader_98 sk_75 rfl d_Reader_readLine_74 (fun z823 z823Z z823E z823e => ?_)
            have g824 : 0 ≤ z823Z ∧ z823Z ≤ 8 := inv_at hI7 z823E z823e rfl
            refine V_bipush 8 d_Reader_readLine_77 (by decide) ?_
            have g825 : z823Z = D 86 := by have q := R11.2.1 75 4 86 rfl; rw [← z823e, z823E] at q; exact q
            refine V_icmp_lt 95 z823E tc_8 d_Reader_readLine_79 (by decide) (fun c826 => ?_) (fun c826 => ?_)
            ·
              have hH : x_cH b T (D 86) p0 = 0 := by have q := x_cH_s b T (D 86) p0; omega
              refine V_iload_n 1 d_Reader_readLine_95 rfl rfl ?_
              refine V_bipush 8 d_Reader_readLine_96 (by decide) ?_
              refine V_icmp_ne 110 tc_9 tc_8 d_Reader_readLine_98 (by decide) (fun c827 => ?_) (fun c827 => ?_)
              ·
                refine V_iconst 0 d_Reader_readLine_110 (by decide) ?_
                refine V_istore_n 2 [some (.ref 88), some (.int 9), some (.int 0)] d_Reader_readLine_111 rfl (by decide) rfl rfl ?_
                refine V_iload_n 2 d_Reader_readLine_112 rfl rfl ?_
                refine V_gets (v := .ref 132) zN ws_Reader_106 d_Reader_readLine_113 ?_
                refine V_iload_n 1 d_Reader_readLine_116 rfl rfl ?_
                refine V_tald roN tc_9 (by decide) d_Reader_readLine_117 (fun z828 z828Z z828E z828e => ?_)
                obtain rfl : z828 = 3 := z828e.trans rfl
                refine V_icmp_ge 138 tc_0 tc_3 d_Reader_readLine_118 (by decide) (fun c829 => ?_) (fun c829 => ?_)
                ·
                  exact absurd c829 (by decide)
                ·
                  refine V_aload_n 0 d_Reader_readLine_121 rfl rfl ?_
                  refine V_iload_n 1 d_Reader_readLine_122 rfl rfl ?_
                  refine V_iload_n 2 d_Reader_readLine_123 rfl rfl ?_
                  refine N_callVI [.int 9, .int 0] [] cv_Reader_109 sk_88 rfl d_Reader_readLine_124 rfl (Nat.le_of_ble_eq_true rfl) (by decide) (by decide) (c_Reader_readNumberX_9_0 h5 b T hI7 s sZ sE (kn_call fh5 sK rfl) u uZ uE (kn_call fh5 uK rfl) o10 o10Z o10E o10K o9 o9Z o9E o9K (TP_fr f8 (fun _ => rfl) hy0) (by omega)) (fun z830 h831 z830Z z830E p832 => ?_)
                  obtain ⟨hI833, fh831, o835, o835Z, o835E, o835K, o836, o836Z, o836E, o836K, o837, o837Z, o837E, o837K, o838, o838Z, o838E, o838K, o839, o839Z, o839E, o839K, o840, o840Z, o840E, o840K, o841, o841Z, o841E, o841K, p832⟩ := p832
                  have f834 : fr S_Reader_readLineX h h831 := fr_call f8 fh831 rfl
                  have R842 : RC h831 T D := RC_fr fh831 rfl R11
                  have g843 : 0 ≤ o836Z ∧ o836Z ≤ 160 := inv_at hI833 o836E o836K.symm rfl
                  have g844 : 0 ≤ o837Z ∧ o837Z ≤ 160 := inv_at hI833 o837E o837K.symm rfl
                  refine V_if_ne 132 z830E d_Reader_readLine_127 (by decide) (fun c845 => ?_) (fun c845 => ?_)
                  ·
                    replace p832 := p832.resolve_right (fun q => by omega)
                    obtain rfl : o837Z = x_en b uZ := by omega
                    obtain rfl : o841Z = x_vl b uZ := by omega
                    refine V_iinc (v := 1) 2 [some (.ref 88), some (.int 9), some (.int 1)] d_Reader_readLine_132 rfl (by decide) (by decide) rfl rfl ?_
                    refine V_goto 112 d_Reader_readLine_135 (by decide) ?_
                    refine V_iload_n 2 d_Reader_readLine_112 rfl rfl ?_
                    refine V_gets (v := .ref 132) zN ws_Reader_106 d_Reader_readLine_113 ?_
                    refine V_iload_n 1 d_Reader_readLine_116 rfl rfl ?_
                    refine V_tald roN tc_9 (by decide) d_Reader_readLine_117 (fun z847 z847Z z847E z847e => ?_)
                    obtain rfl : z847 = 3 := z847e.trans rfl
                    refine V_icmp_ge 138 tc_1 tc_3 d_Reader_readLine_118 (by decide) (fun c848 => ?_) (fun c848 => ?_)
                    ·
                      exact absurd c848 (by decide)
                    ·
                      refine V_aload_n 0 d_Reader_readLine_121 rfl rfl ?_
                      refine V_iload_n 1 d_Reader_readLine_122 rfl rfl ?_
                      refine V_iload_n 2 d_Reader_readLine_123 rfl rfl ?_
                      refine N_callVI [.int 9, .int 1] [] cv_Reader_109 sk_88 rfl d_Reader_readLine_124 rfl (Nat.le_of_ble_eq_true rfl) (by decide) (by decide) (c_Reader_readNumberX_9_1 h831 b T hI833 s sZ sE (kn_call fh831 (kn_call fh5 sK rfl) rfl) o837 ((x_en b uZ)) o837E o837K o840 o840Z o840E o840K o839 o839Z o839E o839K o841 ((x_vl b uZ)) o841E o841K (TP_fr f834 (fun _ => rfl) hy0) (by omega)) (fun z849 h850 z849Z z849E p851 => ?_)
                      obtain ⟨hI852, fh850, o854, o854Z, o854E, o854K, o855, o855Z, o855E, o855K, o856, o856Z, o856E, o856K, o857, o857Z, o857E, o857K, o858, o858Z, o858E, o858K, o859, o859Z, o859E, o859K, o860, o860Z, o860E, o860K, p851⟩ := p851
                      have f853 : fr S_Reader_readLineX h h850 := fr_call f834 fh850 rfl
                      have R861 : RC h850 T D := RC_fr fh850 rfl R842
                      have g862 : 0 ≤ o855Z ∧ o855Z ≤ 160 := inv_at hI852 o855E o855K.symm rfl
                      have g863 : 0 ≤ o856Z ∧ o856Z ≤ 160 := inv_at hI852 o856E o856K.symm rfl
                      refine V_if_ne 132 z849E d_Reader_readLine_127 (by decide) (fun c864 => ?_) (fun c864 => ?_)
                      ·
                        replace p851 := p851.resolve_right (fun q => by omega)
                        obtain rfl : o856Z = x_en b ((x_en b uZ)) := by omega
                        obtain rfl : o860Z = x_vl b ((x_en b uZ)) := by omega
                        refine V_iinc (v := 2) 2 [some (.ref 88), some (.int 9), some (.int 2)] d_Reader_readLine_132 rfl (by decide) (by decide) rfl rfl ?_
                        refine V_goto 112 d_Reader_readLine_135 (by decide) ?_
                        refine V_iload_n 2 d_Reader_readLine_112 rfl rfl ?_
                        refine V_gets (v := .ref 132) zN ws_Reader_106 d_Reader_readLine_113 ?_
                        refine V_iload_n 1 d_Reader_readLine_116 rfl rfl ?_
                        refine V_tald roN tc_9 (by decide) d_Reader_readLine_117 (fun z866 z866Z z866E z866e => ?_)
                        obtain rfl : z866 = 3 := z866e.trans rfl
                        refine V_icmp_ge 138 tc_2 tc_3 d_Reader_readLine_118 (by decide) (fun c867 => ?_) (fun c867 => ?_)
                        ·
                          exact absurd c867 (by decide)
                        ·
                          refine V_aload_n 0 d_Reader_readLine_121 rfl rfl ?_
                          refine V_iload_n 1 d_Reader_readLine_122 rfl rfl ?_
                          refine V_iload_n 2 d_Reader_readLine_123 rfl rfl ?_
                          refine N_callVI [.int 9, .int 2] [] cv_Reader_109 sk_88 rfl d_Reader_readLine_124 rfl (Nat.le_of_ble_eq_true rfl) (by decide) (by decide) (c_Reader_readNumberX_9_2 h850 b T hI852 s sZ sE (kn_call fh850 (kn_call fh831 (kn_call fh5 sK rfl) rfl) rfl) o856 ((x_en b ((x_en b uZ)))) o856E o856K o859 o859Z o859E o859K o858 o858Z o858E o858K (TP_fr f853 (fun _ => rfl) hy0) (by omega)) (fun z868 h869 z868Z z868E p870 => ?_)
                          obtain ⟨hI871, fh869, o873, o873Z, o873E, o873K, o874, o874Z, o874E, o874K, o875, o875Z, o875E, o875K, o876, o876Z, o876E, o876K, o877, o877Z, o877E, o877K, o878, o878Z, o878E, o878K, o879, o879Z, o879E, o879K, p870⟩ := p870
                          have f872 : fr S_Reader_readLineX h h869 := fr_call f853 fh869 rfl
                          have R880 : RC h869 T D := RC_fr fh869 rfl R861
                          have g881 : 0 ≤ o874Z ∧ o874Z ≤ 160 := inv_at hI871 o874E o874K.symm rfl
                          have g882 : 0 ≤ o875Z ∧ o875Z ≤ 160 := inv_at hI871 o875E o875K.symm rfl
                          refine V_if_ne 132 z868E d_Reader_readLine_127 (by decide) (fun c883 => ?_) (fun c883 => ?_)
                          ·
                            replace p870 := p870.resolve_right (fun q => by omega)
                            obtain rfl : o875Z = x_en b ((x_en b ((x_en b uZ)))) := by omega
                            obtain rfl : o879Z = x_vl b ((x_en b ((x_en b uZ)))) := by omega
                            refine V_iinc (v := 3) 2 [some (.ref 88), some (.int 9), some (.int 3)] d_Reader_readLine_132 rfl (by decide) (by decide) rfl rfl ?_
                            refine V_goto 112 d_Reader_readLine_135 (by decide) ?_
                            refine V_iload_n 2 d_Reader_readLine_112 rfl rfl ?_
                            refine V_gets (v := .ref 132) zN ws_Reader_106 d_Reader_readLine_113 ?_
                            refine V_iload_n 1 d_Reader_readLine_116 rfl rfl ?_
                            refine V_tald roN tc_9 (by decide) d_Reader_readLine_117 (fun z885 z885Z z885E z885e => ?_)
                            obtain rfl : z885 = 3 := z885e.trans rfl
                            refine V_icmp_ge 138 tc_3 tc_3 d_Reader_readLine_118 (by decide) (fun c886 => ?_) (fun c886 => ?_)
                            ·
                              refine V_aload_n 0 d_Reader_readLine_138 rfl rfl ?_
                              refine V_getR fa_Reader_12 sk_88 rfl d_Reader_readLine_139 ?_
                              refine N_callVV [] [] cv_Reader_48 sk_89 rfl d_Reader_readLine_142 rfl (Nat.le_of_ble_eq_true rfl) (by decide) (by decide) (c_Tape_advanceX h869 b hI871 s sZ sE (kn_call fh869 (kn_call fh850 (kn_call fh831 (kn_call fh5 sK rfl) rfl) rfl) rfl) o875 ((x_en b ((x_en b ((x_en b uZ)))))) o875E o875K (TP_fr f872 (fun _ => rfl) hy0) (by omega)) (fun h888 p889 => ?_)
                              obtain ⟨hI890, fh888, o892, o892Z, o892E, o892K, o893, o893Z, o893E, o893K, o894, o894Z, o894E, o894K, o895, o895Z, o895E, o895K, p889⟩ := p889
                              have f891 : fr S_Reader_readLineX h h888 := fr_call f872 fh888 rfl
                              have R896 : RC h888 T D := RC_fr fh888 rfl R880
                              have g897 : 0 ≤ o893Z ∧ o893Z ≤ 160 := inv_at hI890 o893E o893K.symm rfl
                              have g898 : 0 ≤ o894Z ∧ o894Z ≤ 160 := inv_at hI890 o894E o894K.symm rfl
                              refine V_aload_n 0 d_Reader_readLine_145 rfl rfl ?_
                              refine V_iconst 3 d_Reader_readLine_146 (by decide) ?_
                              refine N_callVI [.int 3] [] cv_Reader_84 sk_88 rfl d_Reader_readLine_147 rfl (Nat.le_of_ble_eq_true rfl) (by decide) (by decide) (c_Reader_isKindX h888 hI890 3 3 tc_3 o892 o892Z o892E o892K o893 o893Z o893E o893K o878 o878Z o878E (kn_call fh888 o878K rfl) o877 o877Z o877E (kn_call fh888 o877K rfl)) (fun z899 h900 z899Z z899E p901 => ?_)
                              obtain ⟨hI902, fh900, o904, o904Z, o904E, o904K, o905, o905Z, o905E, o905K, p901⟩ := p901
                              have f903 : fr S_Reader_readLineX h h900 := fr_call f891 fh900 rfl
                              have R906 : RC h900 T D := RC_fr fh900 rfl R896
                              refine V_if_ne 155 z899E d_Reader_readLine_150 (by decide) (fun c907 => ?_) (fun c907 => ?_)
                              ·
                                replace p901 := (p901.resolve_left (fun q => by omega)).resolve_right (fun q => by omega)
                                have hS : x_cS b (x_en b ((x_en b ((x_en b uZ))))) = 0 := by have := x_cS_s b (x_en b ((x_en b ((x_en b uZ))))); omega
                                have g908 := x_cN_s b uZ 0 3
                                have g913 := x_cN_s b (x_en b uZ) 0 3
                                have g918 := x_cN_s b (x_en b (x_en b uZ)) 1 99
                                have g923 := x_cS_s b (x_en b (x_en b (x_en b uZ)))
                                refine V_aload_n 0 d_Reader_readLine_155 rfl rfl ?_
                                refine V_iload_n 1 d_Reader_readLine_156 rfl rfl ?_
                                obtain ⟨z932, z932Z, z932E, z932e⟩ : ∃ (y : Int32) (Y : Int), y.toInt = Y ∧ y = h900.1 92 9 := ⟨_, _, rfl, rfl⟩
                                refine N_callVV [.int 9] [] cv_Reader_112 sk_88 rfl d_Reader_readLine_157 rfl (Nat.le_of_ble_eq_true rfl) (by decide) (by decide) (c_Reader_tellLineX_9 h900 T D hI902 o841 ((x_vl b uZ)) o841E (kn_call fh900 (kn_call fh888 (kn_call fh869 (kn_call fh850 o841K rfl) rfl) rfl) rfl) o860 ((x_vl b ((x_en b uZ)))) o860E (kn_call fh900 (kn_call fh888 (kn_call fh869 o860K rfl) rfl) rfl) o879 ((x_vl b ((x_en b ((x_en b uZ)))))) o879E (kn_call fh900 (kn_call fh888 o879K rfl) rfl) z932 z932Z z932E z932e.symm z823 z823Z z823E (kn_call fh900 (kn_call fh888 (kn_call fh869 (kn_call fh850 (kn_call fh831 z823e.symm rfl) rfl) rfl) rfl) rfl) R906 (by omega) (by omega) (by omega) (by omega)) (fun h934 p935 => ?_)
                                obtain ⟨hI936, fh934, p935⟩ := p935
                                have f937 : fr S_Reader_readLineX h h934 := fr_call f903 fh934 rfl
                                have qR := p935
                                refine V_iconst 1 d_Reader_readLine_160 (by decide) ?_
                                exact V_zret rfl (by decide) d_Reader_readLine_161 ⟨1, rfl, ⟨hI936, f937, o894, o894Z, o894E, (kn_call fh934 (kn_call fh900 o894K rfl) rfl), o904, o904Z, o904E, (kn_call fh934 o904K rfl), o905, o905Z, o905E, (kn_call fh934 o905K rfl), (Or.inl ⟨rfl, ((x_line_9 (u := uZ) (by omega) hH hL).trans (by unfold x_l9; rw [x_sq_n (c := x_cN b uZ 0 3) (by omega), x_sq_n (c := x_cN b (x_en b uZ) 0 3) (by omega), x_sq_n (c := x_ce (x_vl b (x_en b uZ)) (x_vl b uZ)) (by omega), x_sq_n (c := x_cN b (x_en b (x_en b uZ)) 1 99) (by omega), x_sq_n (c := x_cS b (x_en b (x_en b (x_en b uZ)))) (by omega)])).trans (pq rfl (by omega)), by omega, by omega, by omega, by rw [x_T_9 T (u := uZ) (by omega) hL, x_D_9 D (u := uZ) (by omega) hL]; exact qR⟩)⟩⟩
                              ·
                                refine V_iconst 0 d_Reader_readLine_153 (by decide) ?_
                                exact V_zret rfl (by decide) d_Reader_readLine_154 ⟨0, rfl, ⟨hI902, f903, o894, o894Z, o894E, (kn_call fh900 o894K rfl), o904, o904Z, o904E, o904K, o905, o905Z, o905E, o905K, (by have q := x_cS_s b (x_en b (x_en b (x_en b uZ))); exact Or.inr ⟨tc_0, ((x_line_9 (u := uZ) (by omega) hH hL).trans (by unfold x_l9; rw [x_sq_n (c := x_cN b uZ 0 3) (by omega), x_sq_n (c := x_cN b (x_en b uZ) 0 3) (by omega), x_sq_n (c := x_ce (x_vl b (x_en b uZ)) (x_vl b uZ)) (by omega), x_sq_n (c := x_cN b (x_en b (x_en b uZ)) 1 99) (by omega), x_sq_y (c := x_cS b (x_en b (x_en b (x_en b uZ)))) (by omega)])).trans (pq (by omega) (by omega)), by omega⟩)⟩⟩
                            ·
                              exact absurd c886 (by decide)
                          ·
                            refine V_iconst 0 d_Reader_readLine_130 (by decide) ?_
                            exact V_zret rfl (by decide) d_Reader_readLine_131 ⟨0, rfl, ⟨hI871, f872, o875, o875Z, o875E, o875K, o877, o877Z, o877E, o877K, o878, o878Z, o878E, o878K, (by exact Or.inr ⟨tc_0, ((x_line_9 (u := uZ) (by omega) hH hL).trans (by unfold x_l9; rw [x_sq_n (c := x_cN b uZ 0 3) (by omega), x_sq_n (c := x_cN b (x_en b uZ) 0 3) (by omega), x_sq_n (c := x_ce (x_vl b (x_en b uZ)) (x_vl b uZ)) (by omega), x_sq_y (c := x_cN b (x_en b (x_en b uZ)) 1 99) (by omega)])).trans (pq (by omega) (by omega)), by omega⟩)⟩⟩
                      ·
                        refine V_iconst 0 d_Reader_readLine_130 (by decide) ?_
                        exact V_zret rfl (by decide) d_Reader_readLine_131 ⟨0, rfl, ⟨hI852, f853, o856, o856Z, o856E, o856K, o858, o858Z, o858E, o858K, o859, o859Z, o859E, o859K, (if q9 : x_cN b (x_en b uZ) 0 3 = 0 then Or.inr ⟨tc_0, ((x_line_9 (u := uZ) (by omega) hH hL).trans (by unfold x_l9; rw [x_sq_n (c := x_cN b uZ 0 3) (by omega), x_sq_n (c := x_cN b (x_en b uZ) 0 3) (by omega), x_sq_y (c := x_ce (x_vl b (x_en b uZ)) (x_vl b uZ)) (by omega)])).trans (pq (by omega) (by omega)), by omega⟩ else Or.inr ⟨tc_0, ((x_line_9 (u := uZ) (by omega) hH hL).trans (by unfold x_l9; rw [x_sq_n (c := x_cN b uZ 0 3) (by omega), x_sq_y (c := x_cN b (x_en b uZ) 0 3) (by omega)])).trans (pq (by omega) (by omega)), by omega⟩)⟩⟩
                  ·
                    refine V_iconst 0 d_Reader_readLine_130 (by decide) ?_
                    exact V_zret rfl (by decide) d_Reader_readLine_131 ⟨0, rfl, ⟨hI833, f834, o837, o837Z, o837E, o837K, o839, o839Z, o839E, o839K, o840, o840Z, o840E, o840K, (by exact Or.inr ⟨tc_0, ((x_line_9 (u := uZ) (by omega) hH hL).trans (by unfold x_l9; rw [x_sq_y (c := x_cN b uZ 0 3) (by omega)])).trans (pq (by omega) (by omega)), by omega⟩)⟩⟩
              ·
                exact absurd c827 (by decide)
            ·
              refine V_aload_n 0 d_Reader_readLine_82 rfl rfl ?_
              refine V_iconst 5 d_Reader_readLine_83 (by decide) ?_
              refine V_aload_n 0 d_Reader_readLine_84 rfl rfl ?_
              refine V_getR fa_Reader_12 sk_88 rfl d_Reader_readLine_85 ?_
              refine N_getK fa_Reader_81 sk_89 rfl d_Reader_readLine_88 (kn_call fh5 fK rfl) ?_
              refine N_callVI [.int 5, .int f] [] cv_Reader_64 sk_88 rfl d_Reader_readLine_91 rfl (Nat.le_of_ble_eq_true rfl) (by decide) (by decide) (c_Reader_isRefusedX h5 hI7 5 5 tc_5 f fZ fE) (fun z938 h939 z938Z z938E p940 => ?_)
              obtain ⟨hI941, fh939, o943, o943Z, o943E, o943K, o944, o944Z, o944E, o944K, p940⟩ := p940
              have f942 : fr S_Reader_readLineX h h939 := fr_call f8 fh939 rfl
              have R945 : RC h939 T D := RC_fr fh939 rfl R11
              exact V_zret rfl (by rw [z938E]; omega) d_Reader_readLine_94 ⟨z938, rfl, ⟨hI941, f942, u, uZ, uE, (kn_call fh939 (kn_call fh5 uK rfl) rfl), o943, o943Z, o943E, o943K, o944, o944Z, o944E, o944K, (by have q := x_cH_s b T (D 86) p0; exact Or.inr ⟨by omega, (x_line_H (by omega)).trans (pq (by omega) (by omega)), by omega⟩)⟩⟩
        ·
          exact absurd c821 (by omega)
    ·
      refine V_aload_n 0 d_Reader_readLine_19 rfl rfl ?_
      refine V_iconst 2 d_Reader_readLine_20 (by decide) ?_
      refine V_aload_n 0 d_Reader_readLine_21 rfl rfl ?_
      refine V_getR fa_Reader_12 sk_88 rfl d_Reader_readLine_22 ?_
      refine N_getK fa_Reader_81 sk_89 rfl d_Reader_readLine_25 (kn_call fh5 fK rfl) ?_
      refine N_callVI [.int 2, .int f] [] cv_Reader_64 sk_88 rfl d_Reader_readLine_28 rfl (Nat.le_of_ble_eq_true rfl) (by decide) (by decide) (c_Reader_isRefusedX h5 hI7 2 2 tc_2 f fZ fE) (fun z946 h947 z946Z z946E p948 => ?_)
      obtain ⟨hI949, fh947, o951, o951Z, o951E, o951K, o952, o952Z, o952E, o952K, p948⟩ := p948
      have f950 : fr S_Reader_readLineX h h947 := fr_call f8 fh947 rfl
      have R953 : RC h947 T D := RC_fr fh947 rfl R11
      exact V_zret rfl (by rw [z946E]; omega) d_Reader_readLine_31 ⟨z946, rfl, ⟨hI949, f950, u, uZ, uE, (kn_call fh947 (kn_call fh5 uK rfl) rfl), o951, o951Z, o951E, o951K, o952, o952Z, o952E, o952K, (by have q := x_cH_s b T (D 86) p0; exact Or.inr ⟨by omega, (x_line_H (by omega)).trans (pq (by omega) (by omega)), by omega⟩)⟩⟩
  ·
    refine V_iconst 0 d_Reader_readLine_8 (by decide) ?_
    exact V_zret rfl (by decide) d_Reader_readLine_9 ⟨0, rfl, ⟨hI7, f8, u, uZ, uE, (kn_call fh5 uK rfl), o9, o9Z, o9E, o9K, o10, o10Z, o10E, o10K, (by have q := x_cH_s b T (D 86) p0; exact Or.inr ⟨tc_0, (x_line_H (by omega)).trans (pq (by omega) (by omega)), by omega⟩)⟩⟩
